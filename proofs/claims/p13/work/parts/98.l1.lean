set_option maxHeartbeats 4000000 in
set_option maxRecDepth 100000 in
theorem k_take0 {sk : xK} {base d n sl : Nat} {SH : Nat → Nat × Nat} {FI : Nat → Nat → Int32} {FL : Nat → Nat → Int64} {FR : Nat → Nat → Option Nat} (hS : h_S n SH) (hF : h_FR FR) (hI : g_I FI) (hR : g_R n SH FR) (g0 : (FI 110 7).toInt = -1) (g1 : (FI 110 5).toInt = 0) (g2 : 1 ≤ (FI 111 4).toInt) (gg0 : g_K FI) : hw sk base d none 38 0 [(0, .ref (base + 110))] [] (n, sl, SH, FI, FL, FR) (h_V (fun s => ∃ FI' FL', s = (n, sl, SH, FI', FL', FR) ∧ g_I FI' ∧ g_fr n (shd SH) [(110, 7), (110, 8)] [] [] FI FI' ∧ g_fr n (shd SH) [(110, 9)] [] [] FL FL' ∧ ((FI' 110 7).toInt = 0) ∧ ((FI' 110 7).toInt + 1 < (FI 111 4).toInt ∨ (FI' 110 8).toInt ≤ 3))) := by
  obtain ⟨x1, h2⟩ : ∃ y, FI 110 7 = y := ⟨_, rfl⟩
  have h2l := congrArg Int32.toInt h2
  have b3 := gI_110_7 hI; rw [h2] at b3
  obtain ⟨x4, h5⟩ : ∃ y, FI 110 5 = y := ⟨_, rfl⟩
  have h5l := congrArg Int32.toInt h5
  have := i_rng x4
  obtain ⟨x6, h7⟩ : ∃ y, FI 111 4 = y := ⟨_, rfl⟩
  have h7l := congrArg Int32.toInt h7
  have b8 := gI_111_4 hI; rw [h7] at b8
  obtain ⟨x9, h10⟩ : ∃ y, FI 110 8 = y := ⟨_, rfl⟩
  have h10l := congrArg Int32.toInt h10
  have := i_rng x9
  refine hw_aloadn (aX4_take 0 rfl) rfl ?_
  refine hw_get (v := .int (x4)) (aX4_take 1 rfl) wf_RX4_39 (c110 hS) (s110 hS) (by decide) (congrArg Value.int (show FI 110 5 = x4 from h5)) ?_
  refine hw_ifne (tgt := 65) (aX4_take 2 rfl) (by decide) rfl (fun cd11 => ?_) (fun cd11 => ?_)
  · refine xw_vret (aX4_take 33 rfl) rfl ?_
    exact ⟨rfl, FI, FL, rfl, hI, gf_rf, gf_rf, (by have := congrArg Int32.toInt (show FI 110 7 = x1 from h2); omega), (by have := congrArg Int32.toInt (show FI 110 7 = x1 from h2); have := congrArg Int32.toInt (show FI 110 8 = x9 from h10); omega)⟩
  · refine hw_aloadn (aX4_take 3 rfl) rfl ?_
    refine hw_get (v := .int (x1)) (aX4_take 4 rfl) wf_RX4_45 (c110 hS) (s110 hS) (by decide) (congrArg Value.int (show FI 110 7 = x1 from h2)) ?_
    refine hw_ic (v := (1 : Int32)) (aX4_take 5 rfl) (by decide) ?_
    refine xw_iadd (aX4_take 6 rfl) ?_
    refine hw_tie (A := ((x1).toInt) + (1)) (i_add rfl (by decide : (1 : Int32).toInt = 1) (by omega) (by omega)) (fun x12 e13 => ?_)
    refine hw_aloadn (aX4_take 7 rfl) rfl ?_
    refine hw_get (v := .ref (base + 111)) (aX4_take 8 rfl) wf_RX4_12 (c110 hS) (s110 hS) (by decide) (congrArg (fun r => va_rf (h_rf base r)) (r110_0 hF)) ?_
    refine hw_get (v := .int (x6)) (aX4_take 9 rfl) wf_RX4_54 (c111 hS) (s111 hS) (by decide) (congrArg Value.int (show FI 111 4 = x6 from h7)) ?_
    refine hw_icge (tgt := 65) (aX4_take 10 rfl) (by decide) e13 rfl (fun cd14 => ?_) (fun cd14 => ?_)
    · refine xw_vret (aX4_take 33 rfl) rfl ?_
      exact ⟨rfl, FI, FL, rfl, hI, gf_rf, gf_rf, (by have := congrArg Int32.toInt (show FI 110 7 = x1 from h2); omega), (by have := congrArg Int32.toInt (show FI 110 7 = x1 from h2); have := congrArg Int32.toInt (show FI 110 8 = x9 from h10); omega)⟩
    · refine hw_aloadn (aX4_take 11 rfl) rfl ?_
      refine xw_dup (aX4_take 12 rfl) rfl ?_
      refine hw_get (v := .int (x1)) (aX4_take 13 rfl) wf_RX4_45 (c110 hS) (s110 hS) (by decide) (congrArg Value.int (show FI 110 7 = x1 from h2)) ?_
      refine hw_ic (v := (1 : Int32)) (aX4_take 14 rfl) (by decide) ?_
      refine xw_iadd (aX4_take 15 rfl) ?_
      refine hw_tie (A := ((x1).toInt) + (1)) (i_add rfl (by decide : (1 : Int32).toInt = 1) (by omega) (by omega)) (fun x15 e16 => ?_)
      refine hv_puti (aX4_take 16 rfl) wf_RX4_45 (c110 hS) (s110 hS) (by decide) rfl rfl (fun FI17 u18 => ?_)
      have hI19 : g_I FI17 := gU_110_7 hI u18 (by have := (e16 : (x15).toInt = ((x1).toInt) + (1)); omega) (by have := (e16 : (x15).toInt = ((x1).toInt) + (1)); omega)
      refine hw_aloadn (aX4_take 17 rfl) rfl ?_
      refine hw_aloadn (aX4_take 18 rfl) rfl ?_
      refine hw_get (v := .ref (base + 111)) (aX4_take 19 rfl) wf_RX4_12 (c110 hS) (s110 hS) (by decide) (congrArg (fun r => va_rf (h_rf base r)) (r110_0 hF)) ?_
      refine hw_get (v := .ref (base + 112)) (aX4_take 20 rfl) wf_RX4_55 (c111 hS) (s111 hS) (by decide) (congrArg (fun r => va_rf (h_rf base r)) (r111_0 hF)) ?_
      refine hw_aloadn (aX4_take 21 rfl) rfl ?_
      refine hw_get (v := .int (x15)) (aX4_take 22 rfl) wf_RX4_45 (c110 hS) (s110 hS) (by decide) (congrArg Value.int (show FI17 110 7 = x15 from up_eq u18)) ?_
      obtain ⟨x20, h21⟩ : ∃ y, FI17 112 (x15).toNatClampNeg = y := ⟨_, rfl⟩
      have h21l := congrArg Int32.toInt h21
      have := i_rng x20
      refine hw_iald (v := x20) (aX4_take 23 rfl) (c112 hS) (s112 hS) (h_in e16 (by omega) (by omega)) (show FI17 112 (x15).toNatClampNeg = x20 from h21) ?_
      have hk3 : (x15).toInt + 1 < (x6).toInt ∨ (x20).toInt ≤ 3 := by { by_cases hq : (x15).toInt + 1 = (x6).toInt; { right; have h9 := gg0.2.1; have e9 : ((FI 111 4).toInt - 1).toNat = (x15).toNatClampNeg := (by show _ = (x15).toInt.toNat; have := (e16 : (x15).toInt = ((x1).toInt) + (1)); omega); rw [e9, ← (show FI17 112 _ = FI 112 _ from up_c u18 (by decide) rfl), show FI17 112 _ = x20 from h21] at h9; exact h9 }; { left; have := (e16 : (x15).toInt = ((x1).toInt) + (1)); omega } }
      refine hv_puti (aX4_take 24 rfl) wf_RX4_51 (c110 hS) (s110 hS) (by decide) rfl rfl (fun FI22 u23 => ?_)
      have hI24 : g_I FI22 := gU_F hI19 u23 rfl
      refine hw_aloadn (aX4_take 25 rfl) rfl ?_
      refine hw_aloadn (aX4_take 26 rfl) rfl ?_
      refine hw_get (v := .ref (base + 111)) (aX4_take 27 rfl) wf_RX4_12 (c110 hS) (s110 hS) (by decide) (congrArg (fun r => va_rf (h_rf base r)) (r110_0 hF)) ?_
      refine hw_get (v := .ref (base + 113)) (aX4_take 28 rfl) wf_RX4_58 (c111 hS) (s111 hS) (by decide) (congrArg (fun r => va_rf (h_rf base r)) (r111_1 hF)) ?_
      refine hw_aloadn (aX4_take 29 rfl) rfl ?_
      refine hw_get (v := .int (x15)) (aX4_take 30 rfl) wf_RX4_45 (c110 hS) (s110 hS) (by decide) (congrArg Value.int (show FI22 110 7 = x15 from (up_k u23 (by decide) (up_eq u18)))) ?_
      obtain ⟨x25, h26⟩ : ∃ y, FL 113 (x15).toNatClampNeg = y := ⟨_, rfl⟩
      have h26l := congrArg Int64.toInt h26
      have := l_rng x25
      refine hw_lald (v := x25) (aX4_take 31 rfl) (c113 hS) (s113 hS) (h_in e16 (by omega) (by omega)) (show FL 113 (x15).toNatClampNeg = x25 from h26) ?_
      refine hv_putl (aX4_take 32 rfl) wf_RX4_62 (c110 hS) (s110 hS) (by decide) rfl rfl (fun FL27 u28 => ?_)
      refine xw_vret (aX4_take 33 rfl) rfl ?_
      exact ⟨rfl, FI22, FL27, rfl, hI24, (gf_f (gf_f gf_rf u18 (by decide)) u23 (by decide)), (gf_f gf_rf u28 (by decide)), (by have := congrArg Int32.toInt (show FI22 110 7 = x15 from (up_k u23 (by decide) (up_eq u18))); have := (e16 : (x15).toInt = ((x1).toInt) + (1)); omega), (by have := congrArg Int32.toInt (show FI22 110 7 = x15 from (up_k u23 (by decide) (up_eq u18))); have := (e16 : (x15).toInt = ((x1).toInt) + (1)); have := congrArg Int32.toInt (show FI22 110 8 = x20 from up_eq u23); omega)⟩
def nX4_begin : Nat := 0xb13000b62a2d00b5022a2a00b5022a2700b5032a2400b5032a2000b5032a1800b51600bd0c102a1c00b61c2b0c00b42a
theorem bX4_begin : cX4_begin.data.toList.map UInt8.toNat = x_un nX4_begin 48 := by decide +kernel
def iX4_begin : List (Nat × Jvm.ClassFile.Instr × Nat) := [(0, .aload_n 0, 1), (1, .getfield 12, 3), (4, .aload_n 1, 1), (5, .iload_n 2, 1), (6, .invokevirtual 28, 3), (9, .aload_n 0, 1), (10, .bipush 12, 2), (12, .anewarray 22, 3), (15, .putfield 24, 3), (18, .aload_n 0, 1), (19, .iconst 0, 1), (20, .putfield 32, 3), (23, .aload_n 0, 1), (24, .iconst 0, 1), (25, .putfield 36, 3), (28, .aload_n 0, 1), (29, .iconst 0, 1), (30, .putfield 39, 3), (33, .aload_n 0, 1), (34, .iconst (-1), 1), (35, .putfield 42, 3), (38, .aload_n 0, 1), (39, .iconst (-1), 1), (40, .putfield 45, 3), (43, .aload_n 0, 1), (44, .invokevirtual 48, 3), (47, .return_, 1)]
theorem dX4_begin : x_il nX4_begin 48 iX4_begin = true := by decide +kernel
theorem aX4_begin (k : Nat) {pc : Nat} {i : Jvm.ClassFile.Instr} {len : Nat} (hk : iX4_begin[k]? = some (pc, i, len)) : x_at xMM 36 pc i len yX4_begin 3 none := ⟨cX4_begin, rfl, x_il_ok bX4_begin dX4_begin k hk⟩
set_option maxHeartbeats 4000000 in
set_option maxRecDepth 100000 in
theorem k_X4_begin {sk : xK} {base d n sl : Nat} {SH : Nat → Nat × Nat} {FI : Nat → Nat → Int32} {FL : Nat → Nat → Int64} {FR : Nat → Nat → Option Nat} (hS : h_S n SH) (hF : h_FR FR) (hI : g_I FI) (hR : g_R n SH FR) (a2 : Int32) (gp : Nat → Nat) (gw : Nat → Nat) (gs : Nat → Nat) (g0 : 0 ≤ (a2).toInt ∧ (a2).toInt ≤ 1000) (gg0 : g_T n SH FI FR gp gw gs) : hw sk base (d + 9) none 36 0 [(0, .ref (base + 110)), (1, .ref (base + 19)), (2, .int (a2))] [] (n, sl, SH, FI, FL, FR) (h_V (fun s => ∃ n' sl' SH' FI' FL' FR', s = (n', sl', SH', FI', FL', FR') ∧ g_ex n SH n' SH' ∧ h_S n' SH' ∧ g_I FI' ∧ g_fr n (shd SH) [(110, 3), (110, 4), (110, 5), (110, 6), (110, 7), (110, 8), (111, 4), (111, 6), (111, 7), (111, 8), (111, 9)] [112, 114, 115] [] FI FI' ∧ g_fr n (shd SH) [(110, 9), (111, 10)] [113] [] FL FL' ∧ g_fr n (shd SH) [(110, 2), (111, 5)] [] [] FR FR' ∧ h_FR FR' ∧ g_R n' SH' FR' ∧ ((FI' 110 5).toInt = 0) ∧ ((FI' 110 4).toInt = 0) ∧ (0 ≤ (FI' 110 7).toInt ∧ (FI' 110 7).toInt < (FI' 111 4).toInt) ∧ ((FI' 110 7).toInt + 1 < (FI' 111 4).toInt ∨ (FI' 110 8).toInt ≤ 3) ∧ ((FI' 111 4).toInt ≤ (a2).toInt + 2) ∧ (n' = n + 1) ∧ (sl' = sl + 12) ∧ ((FI' 110 7).toInt = 0) ∧ (∃ gp2 gw2 gs2, g_T n' SH' FI' FR' gp2 gw2 gs2 ∧ (∀ c, c < n → gp2 c = gp c ∧ gw2 c = gw c ∧ gs2 c = gs c) ∧ True) ∧ (g_K FI') ∧ (g_PV n SH' FR' (FI' 110 3).toInt) ∧ (FR' 111 5 = some 19))) := by
  have rg_a2 := i_rng a2
  have hk0 : ∀ c, c < n → gp c = gp c ∧ gw c = gw c ∧ gs c = gs c := fun _ _ => ⟨rfl, rfl, rfl⟩
  obtain ⟨x1, h2⟩ : ∃ y, FI 110 5 = y := ⟨_, rfl⟩
  have h2l := congrArg Int32.toInt h2
  have := i_rng x1
  obtain ⟨x3, h4⟩ : ∃ y, FI 110 4 = y := ⟨_, rfl⟩
  have h4l := congrArg Int32.toInt h4
  have := i_rng x3
  obtain ⟨x5, h6⟩ : ∃ y, FI 110 7 = y := ⟨_, rfl⟩
  have h6l := congrArg Int32.toInt h6
  have b7 := gI_110_7 hI; rw [h6] at b7
  obtain ⟨x8, h9⟩ : ∃ y, FI 111 4 = y := ⟨_, rfl⟩
  have h9l := congrArg Int32.toInt h9
  have b10 := gI_111_4 hI; rw [h9] at b10
  obtain ⟨x11, h12⟩ : ∃ y, FI 110 8 = y := ⟨_, rfl⟩
  have h12l := congrArg Int32.toInt h12
  have := i_rng x11
  refine hw_aloadn (aX4_begin 0 rfl) rfl ?_
  refine hw_get (v := .ref (base + 111)) (aX4_begin 1 rfl) wf_RX4_12 (c110 hS) (s110 hS) (by decide) (congrArg (fun r => va_rf (h_rf base r)) (r110_0 hF)) ?_
  refine hw_aloadn (aX4_begin 2 rfl) rfl ?_
  refine xw_iloadn (aX4_begin 3 rfl) rfl ?_
  refine hw_callV (Bs := [.ref (base + 19), .int (a2)]) (rest := []) (aX4_begin 4 rfl) wc_RX4_28 (by decide) rfl wi_yX7_readAll wv_yX7_readAll (c111 hS) (s111 hS) rfl rfl rfl (Nat.le_of_ble_eq_true rfl) (Nat.le_of_ble_eq_true rfl) (k_X7_readAll (d := d) hS hF hI hR (a2) (by omega)) (fun v13 sv14 p15 => ?_)
  obtain ⟨rfl, FI17, FL18, FR19, rfl, hI20, f21, f22, f23, hF24, hR25, t26, u27, u28⟩ := p15
  have hT31 : g_T n SH FI17 FR19 gp gw gs := gT_mw (L := [(111, 4), (111, 6), (111, 7), (111, 8), (111, 9)]) (A := [112, 114, 115]) (T := []) (L2 := [(111, 5)]) (A2 := []) (T2 := []) hS gg0 f21 f23 (by decide) (by decide)
  obtain ⟨x32, h33⟩ : ∃ y, FI17 111 4 = y := ⟨_, rfl⟩
  have h33l := congrArg Int32.toInt h33
  have b34 := gI_111_4 hI20; rw [h33] at b34
  show hw sk base _ _ _ _ _ [] _ _
  refine hw_aloadn (aX4_begin 5 rfl) rfl ?_
  refine hw_bp (v := (12 : Int32)) (aX4_begin 6 rfl) (by decide) ?_
  refine hv_newq (k := 4) (z := 12) hS hF24 hI20 hR25 (by unfold g_dt; omega) (aX4_begin 7 rfl) rfl (by decide) (tin_2 (i := 52) rfl rfl) (nin_1 (i := 87) rfl rfl) (by decide) (by decide) (by decide) (fun n35 sl36 SH37 FI38 FL39 FR40 hsl41 nw42 => ?_)
  obtain ⟨hn43, ex44, hS45, hF46, hI47, hR48, lt49, sh50, dy51, eI52, eL53, eR54, zI55, zL56, zR57⟩ := nw42
  have hK58 := gK_nw u27 dy51 eI52
  obtain ⟨gp59, hg60⟩ : ∃ f, f = va_up gp n (0) := ⟨_, rfl⟩
  have : gp59 n = 0 := by rw [hg60]; exact va_s
  obtain ⟨gw61, hg62⟩ : ∃ f, f = va_up gw n (0) := ⟨_, rfl⟩
  have : gw61 n = 0 := by rw [hg62]; exact va_s
  obtain ⟨gs63, hg64⟩ : ∃ f, f = va_up gs n (0) := ⟨_, rfl⟩
  have : gs63 n = 0 := by rw [hg64]; exact va_s
  have hk65 : ∀ c, c < n → gp59 c = gp c ∧ gw61 c = gw c ∧ gs63 c = gs c := fun c hc => by
    obtain ⟨k1, k2, k3⟩ := hk0 c hc
    exact ⟨by rw [hg60]; exact (va_o (show c ≠ n from Nat.ne_of_lt (Nat.lt_of_lt_of_le hc (Nat.le_refl _)))).trans k1, by rw [hg62]; exact (va_o (show c ≠ n from Nat.ne_of_lt (Nat.lt_of_lt_of_le hc (Nat.le_refl _)))).trans k2, by rw [hg64]; exact (va_o (show c ≠ n from Nat.ne_of_lt (Nat.lt_of_lt_of_le hc (Nat.le_refl _)))).trans k3⟩
  have hT66 : g_T n35 SH37 FI38 FR40 gp59 gw61 gs63 := by rw [hg60, hg62, hg64]; exact gT_mk hS hR25 hT31 hn43 ex44 sh50 (by decide) (fun c hc => eI52 c 0 (Nat.ne_of_lt hc)) (fun c k hc => eR54 c k (Nat.ne_of_lt hc)) zR57
  refine hv_putr (r := some (n)) (aX4_begin 8 rfl) wf_RX4_24 (c110 hS45) (s110 hS45) (by decide) (by first | exact Or.inl ⟨_, rfl⟩ | exact Or.inr ⟨_, rfl⟩) (Or.inl rfl) (fun FR67 u68 => ?_)
  have hT69 : g_T n35 SH37 FI38 FR67 gp59 gw61 gs63 := gT_wo hT66 (by rw [(s110 hS45)]; decide) (by rw [(s110 hS45)]; decide) u68
  have hF70 : h_FR FR67 := hF_up hS45 hF46 u68 (s110 hS45) (by decide +kernel)
  have hR71 : g_R n35 SH37 FR67 := gR_up hR48 u68 (s110 hS45) (fun r e => by cases e; exact ⟨lt49, (Or.inr dy51), by rw [sh50]; rfl⟩) (fun h => absurd h (by have := (by decide : 110 < 176); omega)) (fun _ => by simp) (fun h => absurd h.1 (by decide))
  refine hw_aloadn (aX4_begin 9 rfl) rfl ?_
  refine hw_ic (v := (0 : Int32)) (aX4_begin 10 rfl) (by decide) ?_
  refine hv_puti (aX4_begin 11 rfl) wf_RX4_32 (c110 hS45) (s110 hS45) (by decide) rfl rfl (fun FI72 u73 => ?_)
  have hK74 := gK_up hK58 (by decide) u73
  have hT75 : g_T n35 SH37 FI72 FR67 gp59 gw61 gs63 := gT_wi hT69 (fun h => absurd h (by rw [(s110 hS45)]; decide)) u73
  have hI76 : g_I FI72 := gU_110_3 hI47 u73 (by have := ((by decide : (0 : Int32).toInt = 0) : ((0 : Int32)).toInt = 0); omega) (by have := ((by decide : (0 : Int32).toInt = 0) : ((0 : Int32)).toInt = 0); omega)
  refine hw_aloadn (aX4_begin 12 rfl) rfl ?_
  refine hw_ic (v := (0 : Int32)) (aX4_begin 13 rfl) (by decide) ?_
  refine hv_puti (aX4_begin 14 rfl) wf_RX4_36 (c110 hS45) (s110 hS45) (by decide) rfl rfl (fun FI77 u78 => ?_)
  have hK79 := gK_up hK74 (by decide) u78
  have hT80 : g_T n35 SH37 FI77 FR67 gp59 gw61 gs63 := gT_wi hT75 (fun h => absurd h (by rw [(s110 hS45)]; decide)) u78
  have hI81 : g_I FI77 := gU_F hI76 u78 rfl
  refine hw_aloadn (aX4_begin 15 rfl) rfl ?_
  refine hw_ic (v := (0 : Int32)) (aX4_begin 16 rfl) (by decide) ?_
  refine hv_puti (aX4_begin 17 rfl) wf_RX4_39 (c110 hS45) (s110 hS45) (by decide) rfl rfl (fun FI82 u83 => ?_)
  have hK84 := gK_up hK79 (by decide) u83
  have hT85 : g_T n35 SH37 FI82 FR67 gp59 gw61 gs63 := gT_wi hT80 (fun h => absurd h (by rw [(s110 hS45)]; decide)) u83
  have hI86 : g_I FI82 := gU_F hI81 u83 rfl
  refine hw_aloadn (aX4_begin 18 rfl) rfl ?_
  refine hw_ic (v := ((-1) : Int32)) (aX4_begin 19 rfl) (by decide) ?_
  refine hv_puti (aX4_begin 20 rfl) wf_RX4_42 (c110 hS45) (s110 hS45) (by decide) rfl rfl (fun FI87 u88 => ?_)
  have hK89 := gK_up hK84 (by decide) u88
  have hT90 : g_T n35 SH37 FI87 FR67 gp59 gw61 gs63 := gT_wi hT85 (fun h => absurd h (by rw [(s110 hS45)]; decide)) u88
  have hI91 : g_I FI87 := gU_F hI86 u88 rfl
  refine hw_aloadn (aX4_begin 21 rfl) rfl ?_
  refine hw_ic (v := ((-1) : Int32)) (aX4_begin 22 rfl) (by decide) ?_
  refine hv_puti (aX4_begin 23 rfl) wf_RX4_45 (c110 hS45) (s110 hS45) (by decide) rfl rfl (fun FI92 u93 => ?_)
  have hK94 := gK_up hK89 (by decide) u93
  have hT95 : g_T n35 SH37 FI92 FR67 gp59 gw61 gs63 := gT_wi hT90 (fun h => absurd h (by rw [(s110 hS45)]; decide)) u93
  have hI96 : g_I FI92 := gU_110_7 hI91 u93 (by have := ((by decide : ((-1) : Int32).toInt = (-1)) : (((-1) : Int32)).toInt = (-1)); omega) (by have := ((by decide : ((-1) : Int32).toInt = (-1)) : (((-1) : Int32)).toInt = (-1)); omega)
  have := hK94.1
  refine hw_aloadn (aX4_begin 24 rfl) rfl ?_
  refine hw_callV (Bs := []) (rest := []) (aX4_begin 25 rfl) wc_RX4_48 (by decide) rfl wi_yX4_take wv_yX4_take (c110 hS45) (s110 hS45) rfl rfl rfl (Nat.le_of_ble_eq_true rfl) (Nat.le_of_ble_eq_true rfl) (k_take0 (d := d + 8) hS45 hF70 hI96 hR71 (by have := congrArg Int32.toInt (show FI92 110 7 = ((-1) : Int32) from up_eq u93); have := ((by decide : ((-1) : Int32).toInt = (-1)) : (((-1) : Int32)).toInt = (-1)); omega) (by have := congrArg Int32.toInt (show FI92 110 5 = (0 : Int32) from (up_k u93 (by decide) ((up_k u88 (by decide) (up_eq u83))))); have := ((by decide : (0 : Int32).toInt = 0) : ((0 : Int32)).toInt = 0); omega) (by have := congrArg Int32.toInt (show FI92 111 4 = x32 from (up_c u93 (by decide) ((up_c u88 (by decide) ((up_c u83 (by decide) ((up_c u78 (by decide) ((up_c u73 (by decide) (((eI52 111 (4) (Nat.ne_of_lt (c111 hS))).trans (h33))))))))))))); omega) (hK94)) (fun v97 sv98 p99 => ?_)
  have := congrArg Int32.toInt (show FI92 111 4 = x32 from (up_c u93 (by decide) ((up_c u88 (by decide) ((up_c u83 (by decide) ((up_c u78 (by decide) ((up_c u73 (by decide) (((eI52 111 (4) (Nat.ne_of_lt (c111 hS))).trans (h33)))))))))))))
  obtain ⟨rfl, FI101, FL102, rfl, hI103, f104, f105, t108, t109⟩ := p99
  have hK112 := gK_mx (L := [(110, 7), (110, 8)]) (A := []) (T := []) hS45 hK94 f104 (by decide)
  have hT113 : g_T n35 SH37 FI101 FR67 gp59 gw61 gs63 := gT_mw (L := [(110, 7), (110, 8)]) (A := []) (T := []) (L2 := []) (A2 := []) (T2 := []) hS45 hT95 f104 gf_rf (by decide) (by decide)
  obtain ⟨x114, h115⟩ : ∃ y, FI101 110 7 = y := ⟨_, rfl⟩
  have h115l := congrArg Int32.toInt h115
  have b116 := gI_110_7 hI103; rw [h115] at b116
  obtain ⟨x117, h118⟩ : ∃ y, FI101 110 8 = y := ⟨_, rfl⟩
  have h118l := congrArg Int32.toInt h118
  have := i_rng x117
  show hw sk base _ _ _ _ _ [] _ _
  refine xw_vret (aX4_begin 26 rfl) rfl ?_
  exact ⟨rfl, n35, sl36, SH37, FI101, FL102, FR67, rfl, ex44, hS45, hI103, (gf_tr (ex_shd ex44) (gf_f (gf_f (gf_f (gf_f (gf_f (gf_al (gf_tr ex_rf gf_rf f21 rfl rfl rfl) (Nat.le_refl _) eI52) u73 (by decide)) u78 (by decide)) u83 (by decide)) u88 (by decide)) u93 (by decide)) f104 rfl rfl rfl), (gf_tr (ex_shd ex44) (gf_al (gf_tr ex_rf gf_rf f22 rfl rfl rfl) (Nat.le_refl _) eL53) f105 rfl rfl rfl), (gf_f (gf_al (gf_tr ex_rf gf_rf f23 rfl rfl rfl) (Nat.le_refl _) eR54) u68 (by decide)), hF70, hR71, (by have := congrArg Int32.toInt (show FI101 110 5 = (0 : Int32) from (gf_at f104 (c110 hS45) (shd_f (by decide) (s110 hS45)) rfl ((up_k u93 (by decide) ((up_k u88 (by decide) (up_eq u83))))))); have := ((by decide : (0 : Int32).toInt = 0) : ((0 : Int32)).toInt = 0); omega), (by have := congrArg Int32.toInt (show FI101 110 4 = (0 : Int32) from (gf_at f104 (c110 hS45) (shd_f (by decide) (s110 hS45)) rfl ((up_k u93 (by decide) ((up_k u88 (by decide) ((up_k u83 (by decide) (up_eq u78))))))))); have := ((by decide : (0 : Int32).toInt = 0) : ((0 : Int32)).toInt = 0); omega), (by have := congrArg Int32.toInt (show FI101 111 4 = x32 from (gf_at f104 (c111 hS45) (shd_f (by decide) (s111 hS45)) rfl ((up_c u93 (by decide) ((up_c u88 (by decide) ((up_c u83 (by decide) ((up_c u78 (by decide) ((up_c u73 (by decide) (((eI52 111 (4) (Nat.ne_of_lt (c111 hS))).trans (h33))))))))))))))); have := congrArg Int32.toInt (show FI101 110 7 = x114 from h115); omega), (by have := congrArg Int32.toInt (show FI101 111 4 = x32 from (gf_at f104 (c111 hS45) (shd_f (by decide) (s111 hS45)) rfl ((up_c u93 (by decide) ((up_c u88 (by decide) ((up_c u83 (by decide) ((up_c u78 (by decide) ((up_c u73 (by decide) (((eI52 111 (4) (Nat.ne_of_lt (c111 hS))).trans (h33))))))))))))))); have := congrArg Int32.toInt (show FI101 110 7 = x114 from h115); have := congrArg Int32.toInt (show FI101 110 8 = x117 from h118); omega), (by have := congrArg Int32.toInt (show FI101 111 4 = x32 from (gf_at f104 (c111 hS45) (shd_f (by decide) (s111 hS45)) rfl ((up_c u93 (by decide) ((up_c u88 (by decide) ((up_c u83 (by decide) ((up_c u78 (by decide) ((up_c u73 (by decide) (((eI52 111 (4) (Nat.ne_of_lt (c111 hS))).trans (h33))))))))))))))); omega), (by omega), (by omega), (by have := congrArg Int32.toInt (show FI101 110 7 = x114 from h115); omega), (by exact ⟨gp59, gw61, gs63, hT113, hk65, trivial⟩), (by exact hK112), (by exact ⟨n, (show FR67 110 2 = some n from up_eq u68), sh50, dy51, Nat.le_refl _, fun i hi => absurd hi (by have := congrArg Int32.toInt (show FI101 110 3 = (0 : Int32) from (gf_at f104 (c110 hS45) (shd_f (by decide) (s110 hS45)) rfl ((up_k u93 (by decide) ((up_k u88 (by decide) ((up_k u83 (by decide) ((up_k u78 (by decide) (up_eq u73))))))))))); have : ((0 : Int32)).toInt = 0 := (by decide); omega)⟩), (by exact (up_c u68 (by decide) (((eR54 111 (5) (Nat.ne_of_lt (c111 hS))).trans (u28)))))⟩
