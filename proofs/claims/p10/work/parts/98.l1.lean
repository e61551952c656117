set_option maxHeartbeats 4000000 in
set_option maxRecDepth 100000 in
theorem k_take0 {sk : xK} {base d n sl : Nat} {SH : Nat → Nat × Nat} {FI : Nat → Nat → Int32} {FL : Nat → Nat → Int64} {FR : Nat → Nat → Option Nat} (hS : h_S n SH) (hF : h_FR FR) (hI : g_I FI) (hR : g_R n SH FR) (g0 : (FI 110 7).toInt = -1) (g1 : (FI 110 5).toInt = 0) (g2 : 1 ≤ (FI 111 4).toInt) (gg0 : g_K FI) : hw sk base d none 38 0 [(0, .ref (base + 110))] [] (n, sl, SH, FI, FL, FR) (h_V (fun s => ∃ FI' FL', s = (n, sl, SH, FI', FL', FR) ∧ g_I FI' ∧ g_fr n (shd SH) [(110, 7), (110, 8)] [] [] FI FI' ∧ g_fr n (shd SH) [(110, 9)] [] [] FL FL' ∧ ((FI' 110 7).toInt = 0) ∧ ((FI' 110 7).toInt + 1 < (FI 111 4).toInt ∨ (FI' 110 8).toInt ≤ 3))) := by
  obtain ⟨x1, h2⟩ : ∃ y, FI 110 7 = y := ⟨_, rfl⟩
  have h2l := congrArg Int32.toInt h2
  have b3 := gI_110_7 hI; rw [h2] at b3
  obtain ⟨x4, h5⟩ : ∃ y, FI 110 5 = y := ⟨_, rfl⟩
  have h5l := congrArg Int32.toInt h5
  have := i_rng x4
  obtain ⟨x6, h7⟩ : ∃ y, FI 111 4 = y := ⟨_, rfl⟩
  have h7l := congrArg Int32.toInt h7
  have b8 := gI_111_4 hI; rw [h7] at b8
  obtain ⟨x9, h10⟩ : ∃ y, FI 110 8 = y := ⟨_, rfl⟩
  have h10l := congrArg Int32.toInt h10
  have := i_rng x9
  refine hw_aloadn (aX4_take 0 rfl) rfl ?_
  refine hw_get (v := .int (x4)) (aX4_take 1 rfl) wf_RX4_39 (c110 hS) (s110 hS) (by decide) (congrArg Value.int (show FI 110 5 = x4 from h5)) ?_
  refine hw_ifne (tgt := 65) (aX4_take 2 rfl) (by decide) rfl (fun cd11 => ?_) (fun cd11 => ?_)
  · refine xw_vret (aX4_take 33 rfl) rfl ?_
    exact ⟨rfl, FI, FL, rfl, hI, gf_rf, gf_rf, (by have := congrArg Int32.toInt (show FI 110 7 = x1 from h2); omega), (by have := congrArg Int32.toInt (show FI 110 7 = x1 from h2); have := congrArg Int32.toInt (show FI 110 8 = x9 from h10); omega)⟩
  · refine hw_aloadn (aX4_take 3 rfl) rfl ?_
    refine hw_get (v := .int (x1)) (aX4_take 4 rfl) wf_RX4_45 (c110 hS) (s110 hS) (by decide) (congrArg Value.int (show FI 110 7 = x1 from h2)) ?_
    refine hw_ic (v := (1 : Int32)) (aX4_take 5 rfl) (by decide) ?_
    refine xw_iadd (aX4_take 6 rfl) ?_
    refine hw_tie (A := ((x1).toInt) + (1)) (i_add rfl (by decide : (1 : Int32).toInt = 1) (by omega) (by omega)) (fun x12 e13 => ?_)
    refine hw_aloadn (aX4_take 7 rfl) rfl ?_
    refine hw_get (v := .ref (base + 111)) (aX4_take 8 rfl) wf_RX4_12 (c110 hS) (s110 hS) (by decide) (congrArg (fun r => va_rf (h_rf base r)) (r110_0 hF)) ?_
    refine hw_get (v := .int (x6)) (aX4_take 9 rfl) wf_RX4_54 (c111 hS) (s111 hS) (by decide) (congrArg Value.int (show FI 111 4 = x6 from h7)) ?_
    refine hw_icge (tgt := 65) (aX4_take 10 rfl) (by decide) e13 rfl (fun cd14 => ?_) (fun cd14 => ?_)
    · refine xw_vret (aX4_take 33 rfl) rfl ?_
      exact ⟨rfl, FI, FL, rfl, hI, gf_rf, gf_rf, (by have := congrArg Int32.toInt (show FI 110 7 = x1 from h2); omega), (by have := congrArg Int32.toInt (show FI 110 7 = x1 from h2); have := congrArg Int32.toInt (show FI 110 8 = x9 from h10); omega)⟩
    · refine hw_aloadn (aX4_take 11 rfl) rfl ?_
      refine xw_dup (aX4_take 12 rfl) rfl ?_
      refine hw_get (v := .int (x1)) (aX4_take 13 rfl) wf_RX4_45 (c110 hS) (s110 hS) (by decide) (congrArg Value.int (show FI 110 7 = x1 from h2)) ?_
      refine hw_ic (v := (1 : Int32)) (aX4_take 14 rfl) (by decide) ?_
      refine xw_iadd (aX4_take 15 rfl) ?_
      refine hw_tie (A := ((x1).toInt) + (1)) (i_add rfl (by decide : (1 : Int32).toInt = 1) (by omega) (by omega)) (fun x15 e16 => ?_)
      refine hv_puti (aX4_take 16 rfl) wf_RX4_45 (c110 hS) (s110 hS) (by decide) rfl rfl (fun FI17 u18 => ?_)
      have hI19 : g_I FI17 := gU_110_7 hI u18 (by have := (e16 : (x15).toInt = ((x1).toInt) + (1)); omega) (by have := (e16 : (x15).toInt = ((x1).toInt) + (1)); omega)
      refine hw_aloadn (aX4_take 17 rfl) rfl ?_
      refine hw_aloadn (aX4_take 18 rfl) rfl ?_
      refine hw_get (v := .ref (base + 111)) (aX4_take 19 rfl) wf_RX4_12 (c110 hS) (s110 hS) (by decide) (congrArg (fun r => va_rf (h_rf base r)) (r110_0 hF)) ?_
      refine hw_get (v := .ref (base + 112)) (aX4_take 20 rfl) wf_RX4_55 (c111 hS) (s111 hS) (by decide) (congrArg (fun r => va_rf (h_rf base r)) (r111_0 hF)) ?_
      refine hw_aloadn (aX4_take 21 rfl) rfl ?_
      refine hw_get (v := .int (x15)) (aX4_take 22 rfl) wf_RX4_45 (c110 hS) (s110 hS) (by decide) (congrArg Value.int (show FI17 110 7 = x15 from up_eq u18)) ?_
      obtain ⟨x20, h21⟩ : ∃ y, FI17 112 (x15).toNatClampNeg = y := ⟨_, rfl⟩
      have h21l := congrArg Int32.toInt h21
      have := i_rng x20
      refine hw_iald (v := x20) (aX4_take 23 rfl) (c112 hS) (s112 hS) (h_in e16 (by omega) (by omega)) (show FI17 112 (x15).toNatClampNeg = x20 from h21) ?_
      have hk3 : (x15).toInt + 1 < (x6).toInt ∨ (x20).toInt ≤ 3 := by { by_cases hq : (x15).toInt + 1 = (x6).toInt; { right; have h9 := gg0.2.1; have e9 : ((FI 111 4).toInt - 1).toNat = (x15).toNatClampNeg := (by show _ = (x15).toInt.toNat; have := (e16 : (x15).toInt = ((x1).toInt) + (1)); omega); rw [e9, ← (show FI17 112 _ = FI 112 _ from up_c u18 (by decide) rfl), show FI17 112 _ = x20 from h21] at h9; exact h9 }; { left; have := (e16 : (x15).toInt = ((x1).toInt) + (1)); omega } }
      refine hv_puti (aX4_take 24 rfl) wf_RX4_51 (c110 hS) (s110 hS) (by decide) rfl rfl (fun FI22 u23 => ?_)
      have hI24 : g_I FI22 := gU_F hI19 u23 rfl
      refine hw_aloadn (aX4_take 25 rfl) rfl ?_
      refine hw_aloadn (aX4_take 26 rfl) rfl ?_
      refine hw_get (v := .ref (base + 111)) (aX4_take 27 rfl) wf_RX4_12 (c110 hS) (s110 hS) (by decide) (congrArg (fun r => va_rf (h_rf base r)) (r110_0 hF)) ?_
      refine hw_get (v := .ref (base + 113)) (aX4_take 28 rfl) wf_RX4_58 (c111 hS) (s111 hS) (by decide) (congrArg (fun r => va_rf (h_rf base r)) (r111_1 hF)) ?_
      refine hw_aloadn (aX4_take 29 rfl) rfl ?_
      refine hw_get (v := .int (x15)) (aX4_take 30 rfl) wf_RX4_45 (c110 hS) (s110 hS) (by decide) (congrArg Value.int (show FI22 110 7 = x15 from (up_k u23 (by decide) (up_eq u18)))) ?_
      obtain ⟨x25, h26⟩ : ∃ y, FL 113 (x15).toNatClampNeg = y := ⟨_, rfl⟩
      have h26l := congrArg Int64.toInt h26
      have := l_rng x25
      refine hw_lald (v := x25) (aX4_take 31 rfl) (c113 hS) (s113 hS) (h_in e16 (by omega) (by omega)) (show FL 113 (x15).toNatClampNeg = x25 from h26) ?_
      refine hv_putl (aX4_take 32 rfl) wf_RX4_62 (c110 hS) (s110 hS) (by decide) rfl rfl (fun FL27 u28 => ?_)
      refine xw_vret (aX4_take 33 rfl) rfl ?_
      exact ⟨rfl, FI22, FL27, rfl, hI24, (gf_f (gf_f gf_rf u18 (by decide)) u23 (by decide)), (gf_f gf_rf u28 (by decide)), (by have := congrArg Int32.toInt (show FI22 110 7 = x15 from (up_k u23 (by decide) (up_eq u18))); have := (e16 : (x15).toInt = ((x1).toInt) + (1)); omega), (by have := congrArg Int32.toInt (show FI22 110 7 = x15 from (up_k u23 (by decide) (up_eq u18))); have := (e16 : (x15).toInt = ((x1).toInt) + (1)); have := congrArg Int32.toInt (show FI22 110 8 = x20 from up_eq u23); omega)⟩
def nX4_begin : Nat := 0xb13000b62a2d00b5022a2a00b5022a2700b5032a2400b5032a2000b5032a1800b51600bd0c102a1c00b61c2b0c00b42a
theorem bX4_begin : cX4_begin.data.toList.map UInt8.toNat = x_un nX4_begin 48 := by decide +kernel
def iX4_begin : List (Nat × Jvm.ClassFile.Instr × Nat) := [(0, .aload_n 0, 1), (1, .getfield 12, 3), (4, .aload_n 1, 1), (5, .iload_n 2, 1), (6, .invokevirtual 28, 3), (9, .aload_n 0, 1), (10, .bipush 12, 2), (12, .anewarray 22, 3), (15, .putfield 24, 3), (18, .aload_n 0, 1), (19, .iconst 0, 1), (20, .putfield 32, 3), (23, .aload_n 0, 1), (24, .iconst 0, 1), (25, .putfield 36, 3), (28, .aload_n 0, 1), (29, .iconst 0, 1), (30, .putfield 39, 3), (33, .aload_n 0, 1), (34, .iconst (-1), 1), (35, .putfield 42, 3), (38, .aload_n 0, 1), (39, .iconst (-1), 1), (40, .putfield 45, 3), (43, .aload_n 0, 1), (44, .invokevirtual 48, 3), (47, .return_, 1)]
theorem dX4_begin : x_il nX4_begin 48 iX4_begin = true := by decide +kernel
theorem aX4_begin (k : Nat) {pc : Nat} {i : Jvm.ClassFile.Instr} {len : Nat} (hk : iX4_begin[k]? = some (pc, i, len)) : x_at xMM 36 pc i len yX4_begin 3 none := ⟨cX4_begin, rfl, x_il_ok bX4_begin dX4_begin k hk⟩
set_option maxHeartbeats 4000000 in
set_option maxRecDepth 100000 in
theorem k_X4_begin {sk : xK} {base d n sl : Nat} {SH : Nat → Nat × Nat} {FI : Nat → Nat → Int32} {FL : Nat → Nat → Int64} {FR : Nat → Nat → Option Nat} (hS : h_S n SH) (hF : h_FR FR) (hI : g_I FI) (hR : g_R n SH FR) (a2 : Int32) (gp : Nat → Nat) (gw : Nat → Nat) (gs : Nat → Nat) (g0 : 0 ≤ (a2).toInt ∧ (a2).toInt ≤ 1000) (gg0 : g_T n SH FI FR gp gw gs) : hw sk base (d + 4) none 36 0 [(0, .ref (base + 110)), (1, .ref (base + 19)), (2, .int (a2))] [] (n, sl, SH, FI, FL, FR) (h_V (fun s => ∃ n' sl' SH' FI' FL' FR', s = (n', sl', SH', FI', FL', FR') ∧ g_ex n SH n' SH' ∧ h_S n' SH' ∧ g_I FI' ∧ g_fr n (shd SH) [(110, 3), (110, 4), (110, 5), (110, 6), (110, 7), (110, 8), (111, 4), (111, 6), (111, 7), (111, 8), (111, 9)] [112, 114, 115] [] FI FI' ∧ g_fr n (shd SH) [(110, 9), (111, 10)] [113] [] FL FL' ∧ g_fr n (shd SH) [(110, 2), (111, 5)] [] [] FR FR' ∧ h_FR FR' ∧ g_R n' SH' FR' ∧ ((FI' 110 5).toInt = 0) ∧ ((FI' 110 4).toInt = 0) ∧ (0 ≤ (FI' 110 7).toInt ∧ (FI' 110 7).toInt < (FI' 111 4).toInt) ∧ ((FI' 110 7).toInt + 1 < (FI' 111 4).toInt ∨ (FI' 110 8).toInt ≤ 3) ∧ ((FI' 111 4).toInt ≤ (a2).toInt + 2) ∧ (n' = n + 1) ∧ (sl' = sl + 12) ∧ ((FI' 110 7).toInt = 0) ∧ (∃ gp2 gw2 gs2, g_T n' SH' FI' FR' gp2 gw2 gs2 ∧ (∀ c, c < n → gp2 c = gp c ∧ gw2 c = gw c ∧ gs2 c = gs c) ∧ True) ∧ (g_K FI') ∧ (g_PV n SH' FR' (FI' 110 3).toInt))) := by
  have rg_a2 := i_rng a2
  have hk0 : ∀ c, c < n → gp c = gp c ∧ gw c = gw c ∧ gs c = gs c := fun _ _ => ⟨rfl, rfl, rfl⟩
  obtain ⟨x1, h2⟩ : ∃ y, FI 110 5 = y := ⟨_, rfl⟩
  have h2l := congrArg Int32.toInt h2
  have := i_rng x1
  obtain ⟨x3, h4⟩ : ∃ y, FI 110 4 = y := ⟨_, rfl⟩
  have h4l := congrArg Int32.toInt h4
  have := i_rng x3
  obtain ⟨x5, h6⟩ : ∃ y, FI 110 7 = y := ⟨_, rfl⟩
  have h6l := congrArg Int32.toInt h6
  have b7 := gI_110_7 hI; rw [h6] at b7
  obtain ⟨x8, h9⟩ : ∃ y, FI 111 4 = y := ⟨_, rfl⟩
  have h9l := congrArg Int32.toInt h9
  have b10 := gI_111_4 hI; rw [h9] at b10
  obtain ⟨x11, h12⟩ : ∃ y, FI 110 8 = y := ⟨_, rfl⟩
  have h12l := congrArg Int32.toInt h12
  have := i_rng x11
  refine hw_aloadn (aX4_begin 0 rfl) rfl ?_
  refine hw_get (v := .ref (base + 111)) (aX4_begin 1 rfl) wf_RX4_12 (c110 hS) (s110 hS) (by decide) (congrArg (fun r => va_rf (h_rf base r)) (r110_0 hF)) ?_
  refine hw_aloadn (aX4_begin 2 rfl) rfl ?_
  refine xw_iloadn (aX4_begin 3 rfl) rfl ?_
  refine hw_callV (Bs := [.ref (base + 19), .int (a2)]) (rest := []) (aX4_begin 4 rfl) wc_RX4_28 (by decide) rfl wi_yX7_readAll wv_yX7_readAll (c111 hS) (s111 hS) rfl rfl rfl (Nat.le_of_ble_eq_true rfl) (Nat.le_of_ble_eq_true rfl) (k_X7_readAll (d := d) hS hF hI hR (a2) (by omega)) (fun v13 sv14 p15 => ?_)
  obtain ⟨rfl, FI17, FL18, FR19, rfl, hI20, f21, f22, f23, hF24, hR25, t26, u27⟩ := p15
  have hT30 : g_T n SH FI17 FR19 gp gw gs := gT_mw (L := [(111, 4), (111, 6), (111, 7), (111, 8), (111, 9)]) (A := [112, 114, 115]) (T := []) (L2 := [(111, 5)]) (A2 := []) (T2 := []) hS gg0 f21 f23 (by decide) (by decide)
  obtain ⟨x31, h32⟩ : ∃ y, FI17 111 4 = y := ⟨_, rfl⟩
  have h32l := congrArg Int32.toInt h32
  have b33 := gI_111_4 hI20; rw [h32] at b33
  show hw sk base _ _ _ _ _ [] _ _
  refine hw_aloadn (aX4_begin 5 rfl) rfl ?_
  refine hw_bp (v := (12 : Int32)) (aX4_begin 6 rfl) (by decide) ?_
  refine hv_newq (k := 4) (z := 12) hS hF24 hI20 hR25 (by unfold g_dt; omega) (aX4_begin 7 rfl) rfl (by decide) (tin_2 (i := 52) rfl rfl) (nin_1 (i := 87) rfl rfl) (by decide) (by decide) (by decide) (fun n34 sl35 SH36 FI37 FL38 FR39 hsl40 nw41 => ?_)
  obtain ⟨hn42, ex43, hS44, hF45, hI46, hR47, lt48, sh49, dy50, eI51, eL52, eR53, zI54, zL55, zR56⟩ := nw41
  have hK57 := gK_nw u27 dy50 eI51
  obtain ⟨gp58, hg59⟩ : ∃ f, f = va_up gp n (0) := ⟨_, rfl⟩
  have : gp58 n = 0 := by rw [hg59]; exact va_s
  obtain ⟨gw60, hg61⟩ : ∃ f, f = va_up gw n (0) := ⟨_, rfl⟩
  have : gw60 n = 0 := by rw [hg61]; exact va_s
  obtain ⟨gs62, hg63⟩ : ∃ f, f = va_up gs n (0) := ⟨_, rfl⟩
  have : gs62 n = 0 := by rw [hg63]; exact va_s
  have hk64 : ∀ c, c < n → gp58 c = gp c ∧ gw60 c = gw c ∧ gs62 c = gs c := fun c hc => by
    obtain ⟨k1, k2, k3⟩ := hk0 c hc
    exact ⟨by rw [hg59]; exact (va_o (show c ≠ n from Nat.ne_of_lt (Nat.lt_of_lt_of_le hc (Nat.le_refl _)))).trans k1, by rw [hg61]; exact (va_o (show c ≠ n from Nat.ne_of_lt (Nat.lt_of_lt_of_le hc (Nat.le_refl _)))).trans k2, by rw [hg63]; exact (va_o (show c ≠ n from Nat.ne_of_lt (Nat.lt_of_lt_of_le hc (Nat.le_refl _)))).trans k3⟩
  have hT65 : g_T n34 SH36 FI37 FR39 gp58 gw60 gs62 := by rw [hg59, hg61, hg63]; exact gT_mk hS hR25 hT30 hn42 ex43 sh49 (by decide) (fun c hc => eI51 c 0 (Nat.ne_of_lt hc)) (fun c k hc => eR53 c k (Nat.ne_of_lt hc)) zR56
  refine hv_putr (r := some (n)) (aX4_begin 8 rfl) wf_RX4_24 (c110 hS44) (s110 hS44) (by decide) (by first | exact Or.inl ⟨_, rfl⟩ | exact Or.inr ⟨_, rfl⟩) (Or.inl rfl) (fun FR66 u67 => ?_)
  have hT68 : g_T n34 SH36 FI37 FR66 gp58 gw60 gs62 := gT_wo hT65 (by rw [(s110 hS44)]; decide) (by rw [(s110 hS44)]; decide) u67
  have hF69 : h_FR FR66 := hF_up hS44 hF45 u67 (s110 hS44) (by decide +kernel)
  have hR70 : g_R n34 SH36 FR66 := gR_up hR47 u67 (s110 hS44) (fun r e => by cases e; exact ⟨lt48, (Or.inr dy50), by rw [sh49]; rfl⟩) (fun h => absurd h (by have := (by decide : 110 < 176); omega)) (fun _ => by simp) (fun h => absurd h.1 (by decide))
  refine hw_aloadn (aX4_begin 9 rfl) rfl ?_
  refine hw_ic (v := (0 : Int32)) (aX4_begin 10 rfl) (by decide) ?_
  refine hv_puti (aX4_begin 11 rfl) wf_RX4_32 (c110 hS44) (s110 hS44) (by decide) rfl rfl (fun FI71 u72 => ?_)
  have hK73 := gK_up hK57 (by decide) u72
  have hT74 : g_T n34 SH36 FI71 FR66 gp58 gw60 gs62 := gT_wi hT68 (fun h => absurd h (by rw [(s110 hS44)]; decide)) u72
  have hI75 : g_I FI71 := gU_110_3 hI46 u72 (by have := ((by decide : (0 : Int32).toInt = 0) : ((0 : Int32)).toInt = 0); omega) (by have := ((by decide : (0 : Int32).toInt = 0) : ((0 : Int32)).toInt = 0); omega)
  refine hw_aloadn (aX4_begin 12 rfl) rfl ?_
  refine hw_ic (v := (0 : Int32)) (aX4_begin 13 rfl) (by decide) ?_
  refine hv_puti (aX4_begin 14 rfl) wf_RX4_36 (c110 hS44) (s110 hS44) (by decide) rfl rfl (fun FI76 u77 => ?_)
  have hK78 := gK_up hK73 (by decide) u77
  have hT79 : g_T n34 SH36 FI76 FR66 gp58 gw60 gs62 := gT_wi hT74 (fun h => absurd h (by rw [(s110 hS44)]; decide)) u77
  have hI80 : g_I FI76 := gU_F hI75 u77 rfl
  refine hw_aloadn (aX4_begin 15 rfl) rfl ?_
  refine hw_ic (v := (0 : Int32)) (aX4_begin 16 rfl) (by decide) ?_
  refine hv_puti (aX4_begin 17 rfl) wf_RX4_39 (c110 hS44) (s110 hS44) (by decide) rfl rfl (fun FI81 u82 => ?_)
  have hK83 := gK_up hK78 (by decide) u82
  have hT84 : g_T n34 SH36 FI81 FR66 gp58 gw60 gs62 := gT_wi hT79 (fun h => absurd h (by rw [(s110 hS44)]; decide)) u82
  have hI85 : g_I FI81 := gU_F hI80 u82 rfl
  refine hw_aloadn (aX4_begin 18 rfl) rfl ?_
  refine hw_ic (v := ((-1) : Int32)) (aX4_begin 19 rfl) (by decide) ?_
  refine hv_puti (aX4_begin 20 rfl) wf_RX4_42 (c110 hS44) (s110 hS44) (by decide) rfl rfl (fun FI86 u87 => ?_)
  have hK88 := gK_up hK83 (by decide) u87
  have hT89 : g_T n34 SH36 FI86 FR66 gp58 gw60 gs62 := gT_wi hT84 (fun h => absurd h (by rw [(s110 hS44)]; decide)) u87
  have hI90 : g_I FI86 := gU_F hI85 u87 rfl
  refine hw_aloadn (aX4_begin 21 rfl) rfl ?_
  refine hw_ic (v := ((-1) : Int32)) (aX4_begin 22 rfl) (by decide) ?_
  refine hv_puti (aX4_begin 23 rfl) wf_RX4_45 (c110 hS44) (s110 hS44) (by decide) rfl rfl (fun FI91 u92 => ?_)
  have hK93 := gK_up hK88 (by decide) u92
  have hT94 : g_T n34 SH36 FI91 FR66 gp58 gw60 gs62 := gT_wi hT89 (fun h => absurd h (by rw [(s110 hS44)]; decide)) u92
  have hI95 : g_I FI91 := gU_110_7 hI90 u92 (by have := ((by decide : ((-1) : Int32).toInt = (-1)) : (((-1) : Int32)).toInt = (-1)); omega) (by have := ((by decide : ((-1) : Int32).toInt = (-1)) : (((-1) : Int32)).toInt = (-1)); omega)
  have := hK93.1
  refine hw_aloadn (aX4_begin 24 rfl) rfl ?_
  refine hw_callV (Bs := []) (rest := []) (aX4_begin 25 rfl) wc_RX4_48 (by decide) rfl wi_yX4_take wv_yX4_take (c110 hS44) (s110 hS44) rfl rfl rfl (Nat.le_of_ble_eq_true rfl) (Nat.le_of_ble_eq_true rfl) (k_take0 (d := d + 3) hS44 hF69 hI95 hR70 (by have := congrArg Int32.toInt (show FI91 110 7 = ((-1) : Int32) from up_eq u92); have := ((by decide : ((-1) : Int32).toInt = (-1)) : (((-1) : Int32)).toInt = (-1)); omega) (by have := congrArg Int32.toInt (show FI91 110 5 = (0 : Int32) from (up_k u92 (by decide) ((up_k u87 (by decide) (up_eq u82))))); have := ((by decide : (0 : Int32).toInt = 0) : ((0 : Int32)).toInt = 0); omega) (by have := congrArg Int32.toInt (show FI91 111 4 = x31 from (up_c u92 (by decide) ((up_c u87 (by decide) ((up_c u82 (by decide) ((up_c u77 (by decide) ((up_c u72 (by decide) (((eI51 111 (4) (Nat.ne_of_lt (c111 hS))).trans (h32))))))))))))); omega) (hK93)) (fun v96 sv97 p98 => ?_)
  have := congrArg Int32.toInt (show FI91 111 4 = x31 from (up_c u92 (by decide) ((up_c u87 (by decide) ((up_c u82 (by decide) ((up_c u77 (by decide) ((up_c u72 (by decide) (((eI51 111 (4) (Nat.ne_of_lt (c111 hS))).trans (h32)))))))))))))
  obtain ⟨rfl, FI100, FL101, rfl, hI102, f103, f104, t107, t108⟩ := p98
  have hK111 := gK_mx (L := [(110, 7), (110, 8)]) (A := []) (T := []) hS44 hK93 f103 (by decide)
  have hT112 : g_T n34 SH36 FI100 FR66 gp58 gw60 gs62 := gT_mw (L := [(110, 7), (110, 8)]) (A := []) (T := []) (L2 := []) (A2 := []) (T2 := []) hS44 hT94 f103 gf_rf (by decide) (by decide)
  obtain ⟨x113, h114⟩ : ∃ y, FI100 110 7 = y := ⟨_, rfl⟩
  have h114l := congrArg Int32.toInt h114
  have b115 := gI_110_7 hI102; rw [h114] at b115
  obtain ⟨x116, h117⟩ : ∃ y, FI100 110 8 = y := ⟨_, rfl⟩
  have h117l := congrArg Int32.toInt h117
  have := i_rng x116
  show hw sk base _ _ _ _ _ [] _ _
  refine xw_vret (aX4_begin 26 rfl) rfl ?_
  exact ⟨rfl, n34, sl35, SH36, FI100, FL101, FR66, rfl, ex43, hS44, hI102, (gf_tr (ex_shd ex43) (gf_f (gf_f (gf_f (gf_f (gf_f (gf_al (gf_tr ex_rf gf_rf f21 rfl rfl rfl) (Nat.le_refl _) eI51) u72 (by decide)) u77 (by decide)) u82 (by decide)) u87 (by decide)) u92 (by decide)) f103 rfl rfl rfl), (gf_tr (ex_shd ex43) (gf_al (gf_tr ex_rf gf_rf f22 rfl rfl rfl) (Nat.le_refl _) eL52) f104 rfl rfl rfl), (gf_f (gf_al (gf_tr ex_rf gf_rf f23 rfl rfl rfl) (Nat.le_refl _) eR53) u67 (by decide)), hF69, hR70, (by have := congrArg Int32.toInt (show FI100 110 5 = (0 : Int32) from (gf_at f103 (c110 hS44) (shd_f (by decide) (s110 hS44)) rfl ((up_k u92 (by decide) ((up_k u87 (by decide) (up_eq u82))))))); have := ((by decide : (0 : Int32).toInt = 0) : ((0 : Int32)).toInt = 0); omega), (by have := congrArg Int32.toInt (show FI100 110 4 = (0 : Int32) from (gf_at f103 (c110 hS44) (shd_f (by decide) (s110 hS44)) rfl ((up_k u92 (by decide) ((up_k u87 (by decide) ((up_k u82 (by decide) (up_eq u77))))))))); have := ((by decide : (0 : Int32).toInt = 0) : ((0 : Int32)).toInt = 0); omega), (by have := congrArg Int32.toInt (show FI100 111 4 = x31 from (gf_at f103 (c111 hS44) (shd_f (by decide) (s111 hS44)) rfl ((up_c u92 (by decide) ((up_c u87 (by decide) ((up_c u82 (by decide) ((up_c u77 (by decide) ((up_c u72 (by decide) (((eI51 111 (4) (Nat.ne_of_lt (c111 hS))).trans (h32))))))))))))))); have := congrArg Int32.toInt (show FI100 110 7 = x113 from h114); omega), (by have := congrArg Int32.toInt (show FI100 111 4 = x31 from (gf_at f103 (c111 hS44) (shd_f (by decide) (s111 hS44)) rfl ((up_c u92 (by decide) ((up_c u87 (by decide) ((up_c u82 (by decide) ((up_c u77 (by decide) ((up_c u72 (by decide) (((eI51 111 (4) (Nat.ne_of_lt (c111 hS))).trans (h32))))))))))))))); have := congrArg Int32.toInt (show FI100 110 7 = x113 from h114); have := congrArg Int32.toInt (show FI100 110 8 = x116 from h117); omega), (by have := congrArg Int32.toInt (show FI100 111 4 = x31 from (gf_at f103 (c111 hS44) (shd_f (by decide) (s111 hS44)) rfl ((up_c u92 (by decide) ((up_c u87 (by decide) ((up_c u82 (by decide) ((up_c u77 (by decide) ((up_c u72 (by decide) (((eI51 111 (4) (Nat.ne_of_lt (c111 hS))).trans (h32))))))))))))))); omega), (by omega), (by omega), (by have := congrArg Int32.toInt (show FI100 110 7 = x113 from h114); omega), (by exact ⟨gp58, gw60, gs62, hT112, hk64, trivial⟩), (by exact hK111), (by exact ⟨n, (show FR66 110 2 = some n from up_eq u67), sh49, dy50, Nat.le_refl _, fun i hi => absurd hi (by have := congrArg Int32.toInt (show FI100 110 3 = (0 : Int32) from (gf_at f103 (c110 hS44) (shd_f (by decide) (s110 hS44)) rfl ((up_k u92 (by decide) ((up_k u87 (by decide) ((up_k u82 (by decide) ((up_k u77 (by decide) (up_eq u72))))))))))); have : ((0 : Int32)).toInt = 0 := (by decide); omega)⟩)⟩
