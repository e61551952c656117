set_option maxHeartbeats 4000000 in
set_option maxRecDepth 100000 in
theorem n_exec1 {sk : xK} {base d n sl : Nat} {SH : Nat → Nat × Nat} {FI : Nat → Nat → Int32} {FL : Nat → Nat → Int64} {FR : Nat → Nat → Option Nat} (hS : h_S n SH) (hF : h_FR FR) (hI : g_I FI) (a2 : Int32) (a3 : Int32) (g0 : (a2).toInt ≤ (a3).toInt) (g1 : (a3).toInt ≤ (a2).toInt + 600) (g2 : (FI 121 29).toInt = 0) (g3 : 0 ≤ (FI 121 30).toInt ∧ (FI 121 30).toInt ≤ 1000) (g4 : 0 ≤ (a2).toInt ∧ (a2).toInt ≤ 19200) (g5 : 0 ≤ (a3).toInt ∧ (a3).toInt ≤ 19200) (rel_hold : rl_h 2 (FI 136) (FL 137) (FI 138)) (rel_piece : rl_h 32 (FI 130) (FL 131) (FI 134)) (rel_back : rl_b (FI 139) (FI 140) (FI 141)) : hw sk base (d + 4) none 181 0 [(0, .ref (base + 121)), (1, .int ((1 : Int32))), (2, .int (a2)), (3, .int (a3))] [] (n, sl, SH, FI, FL, FR) (h_I (fun r s => ∃ FI' FL', s = (n, sl, SH, FI', FL', FR) ∧ g_I FI' ∧ g_fr n SH [(121, 29), (121, 30), (121, 31), (121, 32), (121, 34), (121, 37), (121, 38)] [128, 129, 130, 132, 133, 134, 135, 136, 138, 139, 140, 141, 142] [] FI FI' ∧ g_fr n SH [(121, 35), (121, 36), (121, 39)] [127, 131, 137] [] FL FL' ∧ (rl_h 2 (FI' 136) (FL' 137) (FI' 138)) ∧ (rl_h 32 (FI' 130) (FL' 131) (FI' 134)) ∧ (rl_b (FI' 139) (FI' 140) (FI' 141)))) := by
  have rg_a2 := i_rng a2
  have rg_a3 := i_rng a3
  obtain ⟨x1, h2⟩ : ∃ y, FI 121 29 = y := ⟨_, rfl⟩
  have h2l := congrArg Int32.toInt h2
  have := i_rng x1
  obtain ⟨x3, h4⟩ : ∃ y, FI 121 30 = y := ⟨_, rfl⟩
  have h4l := congrArg Int32.toInt h4
  have := i_rng x3
  obtain ⟨x5, h6⟩ : ∃ y, FI 121 5 = y := ⟨_, rfl⟩
  have h6l := congrArg Int32.toInt h6
  have b7 := gI_121_5 hI; rw [h6] at b7
  obtain ⟨x8, h9⟩ : ∃ y, FI 121 6 = y := ⟨_, rfl⟩
  have h9l := congrArg Int32.toInt h9
  have b10 := gI_121_6 hI; rw [h9] at b10
  refine xw_iloadn (aX12_exec 0 rfl) rfl ?_
  refine xw_istore (L2 := [(4, .int ((1 : Int32))), (0, .ref (base + 121)), (1, .int ((1 : Int32))), (2, .int (a2)), (3, .int (a3))]) (aX12_exec 1 rfl) (by decide) rfl ?_
  refine hw_aloadn (aX12_exec 2 rfl) rfl ?_
  refine xw_iload (aX12_exec 3 rfl) rfl ?_
  obtain ⟨x11, h12⟩ : ∃ y, FI 142 0 = y := ⟨_, rfl⟩
  have h12l := congrArg Int32.toInt h12
  have b13 := gI_142 (i := 0) hI (by decide); rw [h12] at b13
  refine hw_callV (Bs := [.int ((1 : Int32))]) (rest := []) (aX12_exec 4 rfl) wc_RX12_261 (by decide) rfl wi_yX12_clears wv_yX12_clears (c121 hS) (s121 hS) rfl rfl rfl (Nat.le_of_ble_eq_true rfl) (Nat.le_of_ble_eq_true rfl) (m_clears (d := d + 3) hS hF ((1 : Int32)) (by have := ((by decide : (1 : Int32).toInt = 1) : ((1 : Int32)).toInt = 1); have := ((by decide : (1 : Int32).toInt = 1) : ((1 : Int32)).toInt = 1); omega) (gA_128 hI) (gA_129 hI) (gA_135 hI) (gA_142 hI) (show rl_h 2 (FI 136) (FL 137) (FI 138) from rel_hold)) (fun v14 sv15 p16 => ?_)
  obtain ⟨rfl, FI18, FL19, rfl, f20, rfl, u22, u23, ai24, ai25, ai26, ai27, rl28⟩ := p16
  have f29 : g_fr n SH [] [128, 129, 135, 136, 142] [] FI FI18 := gf_old f20
  have rl30 : rl_h 32 (FI18 130) (FL 131) (FI18 134) := by rw [show FI18 130 = FI 130 from f20.2 130 (by decide) (by decide), show FI18 134 = FI 134 from f20.2 134 (by decide) (by decide)]; exact rel_piece
  have rl31 : rl_b (FI18 139) (FI18 140) (FI18 141) := by rw [show FI18 139 = FI 139 from f20.2 139 (by decide) (by decide), show FI18 140 = FI 140 from f20.2 140 (by decide) (by decide), show FI18 141 = FI 141 from f20.2 141 (by decide) (by decide)]; exact rel_back
  have hI32 : g_I FI18 := g_old hI f20 g_k0 (g_kc (P := fun q => ∀ i, (g_r q i).1 ≤ (FI18 q i).toInt ∧ (FI18 q i).toInt ≤ (g_r q i).2) (gB_128 ai24) (g_kc (P := fun q => ∀ i, (g_r q i).1 ≤ (FI18 q i).toInt ∧ (FI18 q i).toInt ≤ (g_r q i).2) (gB_129 ai25) (g_kc (P := fun q => ∀ i, (g_r q i).1 ≤ (FI18 q i).toInt ∧ (FI18 q i).toInt ≤ (g_r q i).2) (gB_135 ai26) (g_kc (P := fun q => ∀ i, (g_r q i).1 ≤ (FI18 q i).toInt ∧ (FI18 q i).toInt ≤ (g_r q i).2) (fun i => g_full rfl) (g_kc (P := fun q => ∀ i, (g_r q i).1 ≤ (FI18 q i).toInt ∧ (FI18 q i).toInt ≤ (g_r q i).2) (gB_142 ai27) g_k0)))))
  show hw sk base _ _ _ _ _ [] _ _
  refine xw_iloadn (aX12_exec 5 rfl) rfl ?_
  refine xw_istore (L2 := [(5, .int (a2)), (4, .int ((1 : Int32))), (0, .ref (base + 121)), (1, .int ((1 : Int32))), (2, .int (a2)), (3, .int (a3))]) (aX12_exec 6 rfl) (by decide) rfl ?_
  refine xw_iloadn (aX12_exec 7 rfl) rfl ?_
  refine xw_istore (L2 := [(6, .int (a2)), (5, .int (a2)), (4, .int ((1 : Int32))), (0, .ref (base + 121)), (1, .int ((1 : Int32))), (2, .int (a2)), (3, .int (a3))]) (aX12_exec 8 rfl) (by decide) rfl ?_
  refine xw_iloadn (aX12_exec 9 rfl) rfl ?_
  refine xw_istore (L2 := [(7, .int (a3)), (6, .int (a2)), (5, .int (a2)), (4, .int ((1 : Int32))), (0, .ref (base + 121)), (1, .int ((1 : Int32))), (2, .int (a2)), (3, .int (a3))]) (aX12_exec 10 rfl) (by decide) rfl ?_
  have lp54 : ∀ (m : Nat) (y7 : Int32) (y6 : Int32) (y5 : Int32) (y4 : Int32) (FIv33 : Nat → Nat → Int32) (FLv34 : Nat → Nat → Int64), (g_fr n SH [(121, 29), (121, 30), (121, 31), (121, 32), (121, 34), (121, 37), (121, 38)] [128, 129, 130, 132, 133, 134, 135, 136, 138, 139, 140, 141, 142] [] FI FIv33) → (g_fr n SH [(121, 35), (121, 36), (121, 39)] [127, 131, 137] [] FL FLv34) → (g_I FIv33) → (FIv33 121 5 = x5) → (FIv33 121 6 = x8) → (rl_h 2 (FIv33 136) (FLv34 137) (FIv33 138)) → (rl_h 32 (FIv33 130) (FLv34 131) (FIv33 134)) → (rl_b (FIv33 139) (FIv33 140) (FIv33 141)) → (0 ≤ (y4).toInt ∧ (y4).toInt ≤ 1) → (0 ≤ (y5).toInt ∧ (y5).toInt ≤ 19200) → (0 ≤ (y6).toInt ∧ (y6).toInt ≤ 19200) → (0 ≤ (y7).toInt ∧ (y7).toInt ≤ 19200) → (0 ≤ (FIv33 121 29).toInt ∧ (FIv33 121 29).toInt ≤ 8) → (0 ≤ (FIv33 121 30).toInt ∧ (FIv33 121 30).toInt ≤ 1000) → ((y6).toInt ≤ (y5).toInt) → ((y5).toInt ≤ (y7).toInt) → ((y7).toInt ≤ (y6).toInt + 600) → ((y4).toInt = 1) → ((FIv33 121 29).toInt = (FIv33 142 1).toInt) → 40 * (FIv33 121 30).toInt + 2 * (FIv33 121 29).toInt + (y4).toInt < m → hw sk base (d + 4) none 181 18 [(7, .int (y7)), (6, .int (y6)), (5, .int (y5)), (4, .int (y4)), (0, .ref (base + 121)), (1, .int ((1 : Int32))), (2, .int (a2)), (3, .int (a3))] [] (n, sl, SH, FIv33, FLv34, FR) (h_I (fun r s => ∃ FI' FL', s = (n, sl, SH, FI', FL', FR) ∧ g_I FI' ∧ g_fr n SH [(121, 29), (121, 30), (121, 31), (121, 32), (121, 34), (121, 37), (121, 38)] [128, 129, 130, 132, 133, 134, 135, 136, 138, 139, 140, 141, 142] [] FI FI' ∧ g_fr n SH [(121, 35), (121, 36), (121, 39)] [127, 131, 137] [] FL FL' ∧ (rl_h 2 (FI' 136) (FL' 137) (FI' 138)) ∧ (rl_h 32 (FI' 130) (FL' 131) (FI' 134)) ∧ (rl_b (FI' 139) (FI' 140) (FI' 141)))) := by
    intro m
    induction m with
    | zero => intro y7 y6 y5 y4 FIv33 FLv34 fr35 fr36 hI37 kp38 kp39 rl40 rl41 rl42 iv43 iv44 iv45 iv46 iv47 iv48 iv49 iv50 iv51 iv52 iv53 hm; omega
    | succ m ih =>
      intro y7 y6 y5 y4 FIv33 FLv34 fr35 fr36 hI37 kp38 kp39 rl40 rl41 rl42 iv43 iv44 iv45 iv46 iv47 iv48 iv49 iv50 iv51 iv52 iv53 hm
      have rg_y7 := i_rng y7
      have rg_y6 := i_rng y6
      have rg_y5 := i_rng y5
      have rg_y4 := i_rng y4
      have := congrArg Int32.toInt kp38
      have := congrArg Int32.toInt kp39
      obtain ⟨x55, h56⟩ : ∃ y, FIv33 121 29 = y := ⟨_, rfl⟩
      have h56l := congrArg Int32.toInt h56
      have := i_rng x55
      obtain ⟨x57, h58⟩ : ∃ y, FIv33 121 30 = y := ⟨_, rfl⟩
      have h58l := congrArg Int32.toInt h58
      have := i_rng x57
      obtain ⟨x59, h60⟩ : ∃ y, FIv33 142 1 = y := ⟨_, rfl⟩
      have h60l := congrArg Int32.toInt h60
      have b61 := gI_142 (i := 1) hI37 (by decide); rw [h60] at b61
      rcases i_01 (x := y4) rfl (by omega) (by omega) with rfl | rfl
      · have hz0 : ((0 : Int32)).toInt = 0 := by decide
        omega
      · have hz1 : ((1 : Int32)).toInt = 1 := by decide
        refine xw_iload (aX12_exec 11 rfl) rfl ?_
        refine xw_iload (aX12_exec 12 rfl) rfl ?_
        have j718 : (hid ((y5).toInt = (y7).toInt → (x59).toInt ≤ 0)) → hw sk base (d + 4) none 181 116 [(0, .ref (base + 121)), (1, .int ((1 : Int32))), (2, .int (a2)), (3, .int (a3)), (4, .int ((1 : Int32))), (5, .int (y5)), (6, .int (y6)), (7, .int (y7))] [] (n, sl, SH, FIv33, FLv34, FR) (h_I (fun r s => ∃ FI' FL', s = (n, sl, SH, FI', FL', FR) ∧ g_I FI' ∧ g_fr n SH [(121, 29), (121, 30), (121, 31), (121, 32), (121, 34), (121, 37), (121, 38)] [128, 129, 130, 132, 133, 134, 135, 136, 138, 139, 140, 141, 142] [] FI FI' ∧ g_fr n SH [(121, 35), (121, 36), (121, 39)] [127, 131, 137] [] FL FL' ∧ (rl_h 2 (FI' 136) (FL' 137) (FI' 138)) ∧ (rl_h 32 (FI' 130) (FL' 131) (FI' 134)) ∧ (rl_b (FI' 139) (FI' 140) (FI' 141)))) := by
          intro fc116_0
          refine xw_iload (aX12_exec 64 rfl) rfl ?_
          refine xw_iload (aX12_exec 65 rfl) rfl ?_
          refine hw_icne (tgt := 275) (aX12_exec 66 rfl) (by decide) rfl rfl (fun cd719 => ?_) (fun cd719 => ?_)
          · refine hw_sp (v := (128 : Int32)) (aX12_exec 148 rfl) (by decide) ?_
            refine xw_iload (aX12_exec 149 rfl) rfl ?_
            refine xw_imul (aX12_exec 150 rfl) ?_
            refine hw_tie (A := (128) * (1)) (i_mul (by decide : (128 : Int32).toInt = 128) (by decide : (1 : Int32).toInt = 1) (by omega) (by omega)) (fun x720 e721 => ?_)
            refine xw_istore (L2 := [(8, .int (x720)), (0, .ref (base + 121)), (1, .int ((1 : Int32))), (2, .int (a2)), (3, .int (a3)), (4, .int ((1 : Int32))), (5, .int (y5)), (6, .int (y6)), (7, .int (y7))]) (aX12_exec 151 rfl) (by decide) rfl ?_
            refine xw_iload (aX12_exec 152 rfl) rfl ?_
            refine hw_ifne (tgt := 304) (aX12_exec 153 rfl) (by decide) (by decide : (1 : Int32).toInt = 1) (fun cd1273 => ?_) (fun cd1273 => ?_)
            · refine hw_aloadn (aX12_exec 163 rfl) rfl ?_
              obtain ⟨x1274, h1275⟩ : ∃ y, FIv33 121 33 = y := ⟨_, rfl⟩
              have h1275l := congrArg Int32.toInt h1275
              have := i_rng x1274
              refine hw_get (v := .int (x1274)) (aX12_exec 164 rfl) wf_RX12_267 (c121 hS) (s121 hS) (by decide) (congrArg Value.int (show FIv33 121 33 = x1274 from h1275)) ?_
              refine xw_istore (L2 := [(9, .int (x1274)), (8, .int (x720)), (0, .ref (base + 121)), (1, .int ((1 : Int32))), (2, .int (a2)), (3, .int (a3)), (4, .int ((1 : Int32))), (5, .int (y5)), (6, .int (y6)), (7, .int (y7))]) (aX12_exec 165 rfl) (by decide) rfl ?_
              refine hw_aloadn (aX12_exec 166 rfl) rfl ?_
              refine hw_get (v := .int (x57)) (aX12_exec 167 rfl) wf_RX12_296 (c121 hS) (s121 hS) (by decide) (congrArg Value.int (show FIv33 121 30 = x57 from h58)) ?_
              refine hw_ifne (tgt := 326) (aX12_exec 168 rfl) (by decide) rfl (fun cd1276 => ?_) (fun cd1276 => ?_)
              · refine hw_aloadn (aX12_exec 174 rfl) rfl ?_
                refine hw_aloadn (aX12_exec 175 rfl) rfl ?_
                refine hw_get (v := .int (x57)) (aX12_exec 176 rfl) wf_RX12_296 (c121 hS) (s121 hS) (by decide) (congrArg Value.int (show FIv33 121 30 = x57 from h58)) ?_
                refine hw_ic (v := (1 : Int32)) (aX12_exec 177 rfl) (by decide) ?_
                refine xw_isub (aX12_exec 178 rfl) ?_
                refine hw_tie (A := ((x57).toInt) - (1)) (i_sub rfl (by decide : (1 : Int32).toInt = 1) (by omega) (by omega)) (fun x1277 e1278 => ?_)
                refine hv_puti (aX12_exec 179 rfl) wf_RX12_296 (c121 hS) (s121 hS) (by decide) rfl rfl (fun FI1279 u1280 => ?_)
                have rl1281 : rl_b (FI1279 139) (FI1279 140) (FI1279 141) := by rw [show FI1279 139 = FIv33 139 from up_row u1280 (by decide) rfl, show FI1279 140 = FIv33 140 from up_row u1280 (by decide) rfl, show FI1279 141 = FIv33 141 from up_row u1280 (by decide) rfl]; exact rl42
                have rl1282 : rl_h 2 (FI1279 136) (FLv34 137) (FI1279 138) := by rw [show FI1279 136 = FIv33 136 from up_row u1280 (by decide) rfl, show FI1279 138 = FIv33 138 from up_row u1280 (by decide) rfl]; exact rl40
                have rl1283 : rl_h 32 (FI1279 130) (FLv34 131) (FI1279 134) := by rw [show FI1279 130 = FIv33 130 from up_row u1280 (by decide) rfl, show FI1279 134 = FIv33 134 from up_row u1280 (by decide) rfl]; exact rl41
                have hI1284 : g_I FI1279 := gU_F hI37 u1280 rfl
                refine hw_aloadn (aX12_exec 180 rfl) rfl ?_
                refine hw_aloadn (aX12_exec 181 rfl) rfl ?_
                obtain ⟨x1285, h1286⟩ : ∃ y, FI1279 121 31 = y := ⟨_, rfl⟩
                have h1286l := congrArg Int32.toInt h1286
                have := i_rng x1285
                refine hw_get (v := .int (x1285)) (aX12_exec 182 rfl) wf_RX12_299 (c121 hS) (s121 hS) (by decide) (congrArg Value.int (show FI1279 121 31 = x1285 from h1286)) ?_
                refine hw_ic (v := (1 : Int32)) (aX12_exec 183 rfl) (by decide) ?_
                refine xw_iadd (aX12_exec 184 rfl) ?_
                refine hw_ti (fun x1287 => ?_)
                have b1288 := i_rng x1287
                refine hv_puti (aX12_exec 185 rfl) wf_RX12_299 (c121 hS) (s121 hS) (by decide) rfl rfl (fun FI1289 u1290 => ?_)
                have rl1291 : rl_b (FI1289 139) (FI1289 140) (FI1289 141) := by rw [show FI1289 139 = FI1279 139 from up_row u1290 (by decide) rfl, show FI1289 140 = FI1279 140 from up_row u1290 (by decide) rfl, show FI1289 141 = FI1279 141 from up_row u1290 (by decide) rfl]; exact rl1281
                have rl1292 : rl_h 2 (FI1289 136) (FLv34 137) (FI1289 138) := by rw [show FI1289 136 = FI1279 136 from up_row u1290 (by decide) rfl, show FI1289 138 = FI1279 138 from up_row u1290 (by decide) rfl]; exact rl1282
                have rl1293 : rl_h 32 (FI1289 130) (FLv34 131) (FI1289 134) := by rw [show FI1289 130 = FI1279 130 from up_row u1290 (by decide) rfl, show FI1289 134 = FI1279 134 from up_row u1290 (by decide) rfl]; exact rl1283
                have hI1294 : g_I FI1289 := gU_F hI1284 u1290 rfl
                refine hw_aloadn (aX12_exec 186 rfl) rfl ?_
                refine hw_get (v := .ref (base + 124)) (aX12_exec 187 rfl) wf_RX12_17 (c121 hS) (s121 hS) (by decide) (congrArg (fun r => va_rf (h_rf base r)) (r121_3 hF)) ?_
                refine xw_iload (aX12_exec 188 rfl) rfl ?_
                obtain ⟨x1295, h1296⟩ : ∃ y, FI1289 124 (y5).toNatClampNeg = y := ⟨_, rfl⟩
                have h1296l := congrArg Int32.toInt h1296
                have := i_rng x1295
                refine hw_iald (v := x1295) (aX12_exec 189 rfl) (c124 hS) (s124 hS) (h_in rfl (by omega) (by omega)) (show FI1289 124 (y5).toNatClampNeg = x1295 from h1296) ?_
                have b1297 := gI_124 hI1294 (i_lt (x := y5) rfl (by omega) (by omega)); rw [h1296] at b1297
                refine xw_istore (L2 := [(10, .int (x1295)), (9, .int (x1274)), (8, .int (x720)), (0, .ref (base + 121)), (1, .int ((1 : Int32))), (2, .int (a2)), (3, .int (a3)), (4, .int ((1 : Int32))), (5, .int (y5)), (6, .int (y6)), (7, .int (y7))]) (aX12_exec 190 rfl) (by decide) rfl ?_
                refine hw_aloadn (aX12_exec 191 rfl) rfl ?_
                refine xw_iload (aX12_exec 192 rfl) rfl ?_
                refine hw_callV (Bs := [.int (x1295)]) (rest := []) (aX12_exec 193 rfl) wc_RX12_302 (by decide) rfl wi_yX12_isKnown wv_yX12_isKnown (c121 hS) (s121 hS) rfl rfl rfl (Nat.le_of_ble_eq_true rfl) (Nat.le_of_ble_eq_true rfl) (m_isKnown (d := d + 3) hS hF (x1295) ) (fun v1298 sv1299 p1300 => ?_)
                obtain ⟨r1301, rfl, FI1302, FL1303, rfl, rfl, rfl, t1306, t1307⟩ := p1300
                show hw sk base _ _ _ _ _ [.int (r1301)] _ _
                refine hw_ifne (tgt := 372) (aX12_exec 194 rfl) (by decide) rfl (fun cd1308 => ?_) (fun cd1308 => ?_)
                · replace t1306 := t1306 (by omega)
                  refine hw_aloadn (aX12_exec 200 rfl) rfl ?_
                  refine xw_iload (aX12_exec 201 rfl) rfl ?_
                  refine hw_ic (v := (1 : Int32)) (aX12_exec 202 rfl) (by decide) ?_
                  refine xw_iadd (aX12_exec 203 rfl) ?_
                  refine hw_tie (A := ((y5).toInt) + (1)) (i_add rfl (by decide : (1 : Int32).toInt = 1) (by omega) (by omega)) (fun x1309 e1310 => ?_)
                  refine hv_puti (aX12_exec 204 rfl) wf_RX12_223 (c121 hS) (s121 hS) (by decide) rfl rfl (fun FI1311 u1312 => ?_)
                  have rl1313 : rl_b (FI1311 139) (FI1311 140) (FI1311 141) := by rw [show FI1311 139 = FI1289 139 from up_row u1312 (by decide) rfl, show FI1311 140 = FI1289 140 from up_row u1312 (by decide) rfl, show FI1311 141 = FI1289 141 from up_row u1312 (by decide) rfl]; exact rl1291
                  have rl1314 : rl_h 2 (FI1311 136) (FLv34 137) (FI1311 138) := by rw [show FI1311 136 = FI1289 136 from up_row u1312 (by decide) rfl, show FI1311 138 = FI1289 138 from up_row u1312 (by decide) rfl]; exact rl1292
                  have rl1315 : rl_h 32 (FI1311 130) (FLv34 131) (FI1311 134) := by rw [show FI1311 130 = FI1289 130 from up_row u1312 (by decide) rfl, show FI1311 134 = FI1289 134 from up_row u1312 (by decide) rfl]; exact rl1293
                  have hI1316 : g_I FI1311 := gU_F hI1294 u1312 rfl
                  refine hw_aloadn (aX12_exec 205 rfl) rfl ?_
                  refine xw_iload (aX12_exec 206 rfl) rfl ?_
                  refine xw_iload (aX12_exec 207 rfl) rfl ?_
                  refine hw_callV (Bs := [.int (x1295), .int (y7)]) (rest := []) (aX12_exec 208 rfl) wc_RX12_306 (by decide) rfl wi_yX12_operands wv_yX12_operands (c121 hS) (s121 hS) rfl rfl rfl (Nat.le_of_ble_eq_true rfl) (Nat.le_of_ble_eq_true rfl) (m_operands (d := d + 2) hS hF (x1295) (y7) (by have := congrArg Int32.toInt (show FI1311 121 37 = x1309 from up_eq u1312); have := (e1310 : (x1309).toInt = ((y5).toInt) + (1)); omega) (by omega) (by have := congrArg Int32.toInt (show FI1311 121 37 = x1309 from up_eq u1312); have := (e1310 : (x1309).toInt = ((y5).toInt) + (1)); have := congrArg Int32.toInt (show FI1311 121 37 = x1309 from up_eq u1312); have := (e1310 : (x1309).toInt = ((y5).toInt) + (1)); omega) (gA_124 hI1316)) (fun v1317 sv1318 p1319 => ?_)
                  have := congrArg Int32.toInt (show FI1311 121 37 = x1309 from up_eq u1312)
                  have := (e1310 : (x1309).toInt = ((y5).toInt) + (1))
                  have := congrArg Int32.toInt (show FI1311 121 37 = x1309 from up_eq u1312)
                  have := (e1310 : (x1309).toInt = ((y5).toInt) + (1))
                  obtain ⟨rfl, FI1321, FL1322, rfl, f1323, f1324, t1325, t1326, t1327, t1328⟩ := p1319
                  have f1329 : g_fr n SH [(121, 37), (121, 38)] [] [] FI1311 FI1321 := gf_old f1323
                  have f1330 : g_fr n SH [(121, 35), (121, 36)] [] [] FLv34 FL1322 := gf_old f1324
                  have rl1331 : rl_b (FI1321 139) (FI1321 140) (FI1321 141) := by rw [show FI1321 139 = FI1311 139 from f1323.2 139 (by decide) (by decide), show FI1321 140 = FI1311 140 from f1323.2 140 (by decide) (by decide), show FI1321 141 = FI1311 141 from f1323.2 141 (by decide) (by decide)]; exact rl1313
                  have rl1332 : rl_h 2 (FI1321 136) (FL1322 137) (FI1321 138) := by rw [show FI1321 136 = FI1311 136 from f1323.2 136 (by decide) (by decide), show FL1322 137 = FLv34 137 from f1324.2 137 (by decide) (by decide), show FI1321 138 = FI1311 138 from f1323.2 138 (by decide) (by decide)]; exact rl1314
                  have rl1333 : rl_h 32 (FI1321 130) (FL1322 131) (FI1321 134) := by rw [show FI1321 130 = FI1311 130 from f1323.2 130 (by decide) (by decide), show FL1322 131 = FLv34 131 from f1324.2 131 (by decide) (by decide), show FI1321 134 = FI1311 134 from f1323.2 134 (by decide) (by decide)]; exact rl1315
                  have hI1334 : g_I FI1321 := g_old hI1316 f1323 (g_kc (P := fun k => (g_r 121 k).1 ≤ (FI1321 121 k).toInt ∧ (FI1321 121 k).toInt ≤ (g_r 121 k).2) (g_full rfl) (g_kc (P := fun k => (g_r 121 k).1 ≤ (FI1321 121 k).toInt ∧ (FI1321 121 k).toInt ≤ (g_r 121 k).2) (g_full rfl) g_k0)) g_k0
                  obtain ⟨x1335, h1336⟩ : ∃ y, FI1321 121 38 = y := ⟨_, rfl⟩
                  have h1336l := congrArg Int32.toInt h1336
                  have := i_rng x1335
                  obtain ⟨x1337, h1338⟩ : ∃ y, FI1321 121 37 = y := ⟨_, rfl⟩
                  have h1338l := congrArg Int32.toInt h1338
                  have := i_rng x1337
                  obtain ⟨x1339, h1340⟩ : ∃ y, FL1322 121 35 = y := ⟨_, rfl⟩
                  have h1340l := congrArg Int64.toInt h1340
                  have := l_rng x1339
                  obtain ⟨x1341, h1342⟩ : ∃ y, FL1322 121 36 = y := ⟨_, rfl⟩
                  have h1342l := congrArg Int64.toInt h1342
                  have := l_rng x1341
                  show hw sk base _ _ _ _ _ [] _ _
                  replace t1325 := hid_i t1325
                  replace t1326 := hid_i t1326
                  replace t1327 := hid_i t1327
                  replace t1328 := hid_i t1328
                  refine hw_aloadn (aX12_exec 209 rfl) rfl ?_
                  refine hw_get (v := .int (x1335)) (aX12_exec 210 rfl) wf_RX12_220 (c121 hS) (s121 hS) (by decide) (congrArg Value.int (show FI1321 121 38 = x1335 from h1336)) ?_
                  refine hw_ifeq (tgt := 406) (aX12_exec 211 rfl) (by decide) rfl (fun cd1343 => ?_) (fun cd1343 => ?_)
                  · have z1344 := hid_e t1325 (by omega)
                    refine hw_aloadn (aX12_exec 218 rfl) rfl ?_
                    refine hw_get (v := .int (x1337)) (aX12_exec 219 rfl) wf_RX12_223 (c121 hS) (s121 hS) (by decide) (congrArg Value.int (show FI1321 121 37 = x1337 from h1338)) ?_
                    refine xw_istore (L2 := [(11, .int (x1337)), (10, .int (x1295)), (9, .int (x1274)), (8, .int (x720)), (0, .ref (base + 121)), (1, .int ((1 : Int32))), (2, .int (a2)), (3, .int (a3)), (4, .int ((1 : Int32))), (5, .int (y5)), (6, .int (y6)), (7, .int (y7))]) (aX12_exec 220 rfl) (by decide) rfl ?_
                    refine hw_aloadn (aX12_exec 221 rfl) rfl ?_
                    refine hw_get (v := .long (x1339)) (aX12_exec 222 rfl) wf_RX12_228 (c121 hS) (s121 hS) (by decide) (congrArg Value.long (show FL1322 121 35 = x1339 from h1340)) ?_
                    refine xw_lstore (L2 := [(12, .long (x1339)), (11, .int (x1337)), (10, .int (x1295)), (9, .int (x1274)), (8, .int (x720)), (0, .ref (base + 121)), (1, .int ((1 : Int32))), (2, .int (a2)), (3, .int (a3)), (4, .int ((1 : Int32))), (5, .int (y5)), (6, .int (y6)), (7, .int (y7))]) (aX12_exec 223 rfl) (by decide) rfl ?_
                    refine hw_aloadn (aX12_exec 224 rfl) rfl ?_
                    refine hw_get (v := .long (x1341)) (aX12_exec 225 rfl) wf_RX12_231 (c121 hS) (s121 hS) (by decide) (congrArg Value.long (show FL1322 121 36 = x1341 from h1342)) ?_
                    refine xw_lstore (L2 := [(14, .long (x1341)), (12, .long (x1339)), (11, .int (x1337)), (10, .int (x1295)), (9, .int (x1274)), (8, .int (x720)), (0, .ref (base + 121)), (1, .int ((1 : Int32))), (2, .int (a2)), (3, .int (a3)), (4, .int ((1 : Int32))), (5, .int (y5)), (6, .int (y6)), (7, .int (y7))]) (aX12_exec 226 rfl) (by decide) rfl ?_
                    refine hw_aloadn (aX12_exec 227 rfl) rfl ?_
                    refine hw_get (v := .ref (base + 136)) (aX12_exec 228 rfl) wf_RX12_60 (c121 hS) (s121 hS) (by decide) (congrArg (fun r => va_rf (h_rf base r)) (r121_23 hF)) ?_
                    refine xw_iload (aX12_exec 229 rfl) rfl ?_
                    obtain ⟨x1345, h1346⟩ : ∃ y, FI1321 136 1 = y := ⟨_, rfl⟩
                    have h1346l := congrArg Int32.toInt h1346
                    have := i_rng x1345
                    refine hw_iald (v := x1345) (aX12_exec 230 rfl) (c136 hS) (s136 hS) (h_in (by decide : (1 : Int32).toInt = 1) (by omega) (by omega)) (show FI1321 136 ((1 : Int32)).toNatClampNeg = x1345 from h1346) ?_
                    have j1782 : hw sk base (d + 4) none 181 490 [(0, .ref (base + 121)), (1, .int ((1 : Int32))), (2, .int (a2)), (3, .int (a3)), (4, .int ((1 : Int32))), (6, .int (y6)), (7, .int (y7)), (8, .int (x720)), (9, .int (x1274)), (10, .int (x1295)), (11, .int (x1337)), (12, .long (x1339)), (14, .long (x1341))] [] (n, sl, SH, FI1321, FL1322, FR) (h_I (fun r s => ∃ FI' FL', s = (n, sl, SH, FI', FL', FR) ∧ g_I FI' ∧ g_fr n SH [(121, 29), (121, 30), (121, 31), (121, 32), (121, 34), (121, 37), (121, 38)] [128, 129, 130, 132, 133, 134, 135, 136, 138, 139, 140, 141, 142] [] FI FI' ∧ g_fr n SH [(121, 35), (121, 36), (121, 39)] [127, 131, 137] [] FL FL' ∧ (rl_h 2 (FI' 136) (FL' 137) (FI' 138)) ∧ (rl_h 32 (FI' 130) (FL' 131) (FI' 134)) ∧ (rl_b (FI' 139) (FI' 140) (FI' 141)))) := by
                      refine xw_iload (aX12_exec 255 rfl) rfl ?_
                      refine hw_sp (v := (144 : Int32)) (aX12_exec 256 rfl) (by decide) ?_
                      have j2197 : (hid (((x1295).toInt = 144 ∨ (x1295).toInt = 146) → (0 ≤ (x1339).toInt ∧ (x1339).toInt ≤ 31))) → hw sk base (d + 4) none 181 527 [(0, .ref (base + 121)), (1, .int ((1 : Int32))), (2, .int (a2)), (3, .int (a3)), (4, .int ((1 : Int32))), (6, .int (y6)), (7, .int (y7)), (8, .int (x720)), (9, .int (x1274)), (10, .int (x1295)), (11, .int (x1337)), (12, .long (x1339)), (14, .long (x1341))] [] (n, sl, SH, FI1321, FL1322, FR) (h_I (fun r s => ∃ FI' FL', s = (n, sl, SH, FI', FL', FR) ∧ g_I FI' ∧ g_fr n SH [(121, 29), (121, 30), (121, 31), (121, 32), (121, 34), (121, 37), (121, 38)] [128, 129, 130, 132, 133, 134, 135, 136, 138, 139, 140, 141, 142] [] FI FI' ∧ g_fr n SH [(121, 35), (121, 36), (121, 39)] [127, 131, 137] [] FL FL' ∧ (rl_h 2 (FI' 136) (FL' 137) (FI' 138)) ∧ (rl_h 32 (FI' 130) (FL' 131) (FI' 134)) ∧ (rl_b (FI' 139) (FI' 140) (FI' 141)))) := by
                        intro fc527_0
                        refine xw_iload (aX12_exec 271 rfl) rfl ?_
                        refine hw_sp (v := (148 : Int32)) (aX12_exec 272 rfl) (by decide) ?_
                        have j2585 : (hid ((x1295).toInt = 148 → (1 ≤ (x1339).toInt ∧ (x1339).toInt ≤ 8))) → hw sk base (d + 4) none 181 560 [(0, .ref (base + 121)), (1, .int ((1 : Int32))), (2, .int (a2)), (3, .int (a3)), (4, .int ((1 : Int32))), (6, .int (y6)), (7, .int (y7)), (8, .int (x720)), (9, .int (x1274)), (10, .int (x1295)), (11, .int (x1337)), (12, .long (x1339)), (14, .long (x1341))] [] (n, sl, SH, FI1321, FL1322, FR) (h_I (fun r s => ∃ FI' FL', s = (n, sl, SH, FI', FL', FR) ∧ g_I FI' ∧ g_fr n SH [(121, 29), (121, 30), (121, 31), (121, 32), (121, 34), (121, 37), (121, 38)] [128, 129, 130, 132, 133, 134, 135, 136, 138, 139, 140, 141, 142] [] FI FI' ∧ g_fr n SH [(121, 35), (121, 36), (121, 39)] [127, 131, 137] [] FL FL' ∧ (rl_h 2 (FI' 136) (FL' 137) (FI' 138)) ∧ (rl_h 32 (FI' 130) (FL' 131) (FI' 134)) ∧ (rl_b (FI' 139) (FI' 140) (FI' 141)))) := by
                          intro fc560_0
                          refine xw_iload (aX12_exec 287 rfl) rfl ?_
                          refine hw_sp (v := (147 : Int32)) (aX12_exec 288 rfl) (by decide) ?_
                          have j2956 : (147 ≤ (x1295).toInt ∧ (x1295).toInt ≤ 157) → hw sk base (d + 4) none 181 576 [(0, .ref (base + 121)), (1, .int ((1 : Int32))), (2, .int (a2)), (3, .int (a3)), (4, .int ((1 : Int32))), (6, .int (y6)), (7, .int (y7)), (9, .int (x1274)), (10, .int (x1295)), (11, .int (x1337)), (12, .long (x1339)), (14, .long (x1341))] [] (n, sl, SH, FI1321, FL1322, FR) (h_I (fun r s => ∃ FI' FL', s = (n, sl, SH, FI', FL', FR) ∧ g_I FI' ∧ g_fr n SH [(121, 29), (121, 30), (121, 31), (121, 32), (121, 34), (121, 37), (121, 38)] [128, 129, 130, 132, 133, 134, 135, 136, 138, 139, 140, 141, 142] [] FI FI' ∧ g_fr n SH [(121, 35), (121, 36), (121, 39)] [127, 131, 137] [] FL FL' ∧ (rl_h 2 (FI' 136) (FL' 137) (FI' 138)) ∧ (rl_h 32 (FI' 130) (FL' 131) (FI' 134)) ∧ (rl_b (FI' 139) (FI' 140) (FI' 141)))) := by
                            intro q2957
                            refine hw_aloadn (aX12_exec 293 rfl) rfl ?_
                            refine xw_iload (aX12_exec 294 rfl) rfl ?_
                            refine xw_iload (aX12_exec 295 rfl) rfl ?_
                            refine hw_sp (v := (157 : Int32)) (aX12_exec 296 rfl) (by decide) ?_
                            have j2995 : ∀ (g2959 : Int32), (0 ≤ (g2959).toInt ∧ (g2959).toInt ≤ 1) → hw sk base (d + 4) none 181 592 [(0, .ref (base + 121)), (1, .int ((1 : Int32))), (2, .int (a2)), (3, .int (a3)), (4, .int ((1 : Int32))), (6, .int (y6)), (7, .int (y7)), (9, .int (x1274)), (11, .int (x1337)), (12, .long (x1339)), (14, .long (x1341))] [.int (g2959), .int ((1 : Int32)), .ref (base + 121)] (n, sl, SH, FI1321, FL1322, FR) (h_I (fun r s => ∃ FI' FL', s = (n, sl, SH, FI', FL', FR) ∧ g_I FI' ∧ g_fr n SH [(121, 29), (121, 30), (121, 31), (121, 32), (121, 34), (121, 37), (121, 38)] [128, 129, 130, 132, 133, 134, 135, 136, 138, 139, 140, 141, 142] [] FI FI' ∧ g_fr n SH [(121, 35), (121, 36), (121, 39)] [127, 131, 137] [] FL FL' ∧ (rl_h 2 (FI' 136) (FL' 137) (FI' 138)) ∧ (rl_h 32 (FI' 130) (FL' 131) (FI' 134)) ∧ (rl_b (FI' 139) (FI' 140) (FI' 141)))) := by
                              intro g2959 q2996
                              have rg_g2959 := i_rng g2959
                              refine xw_lload (aX12_exec 301 rfl) rfl ?_
                              refine xw_lload (aX12_exec 302 rfl) rfl ?_
                              refine hw_callV (Bs := [.int ((1 : Int32)), .int (g2959), .long (x1339), .long (x1341)]) (rest := []) (aX12_exec 303 rfl) wc_RX12_317 (by decide) rfl wi_yX12_isPiece wv_yX12_isPiece (c121 hS) (s121 hS) rfl rfl rfl (Nat.le_of_ble_eq_true rfl) (Nat.le_of_ble_eq_true rfl) (m_isPiece (d := d + 2) hS hF ((1 : Int32)) (g2959) (x1339) (x1341) (by omega) (by have := ((by decide : (1 : Int32).toInt = 1) : ((1 : Int32)).toInt = 1); have := ((by decide : (1 : Int32).toInt = 1) : ((1 : Int32)).toInt = 1); omega) (gA_128 hI1334) (gA_129 hI1334) (gA_132 hI1334) (gA_133 hI1334) (gA_135 hI1334) (show rl_h 2 (FI1321 136) (FL1322 137) (FI1321 138) from rl1332) (show rl_h 32 (FI1321 130) (FL1322 131) (FI1321 134) from rl1333)) (fun v2997 sv2998 p2999 => ?_)
                              obtain ⟨r3000, rfl, FI3001, FL3002, rfl, f3003, f3004, t3005, ai3006, ai3007, ai3008, ai3009, ai3010, rl3011, rl3012⟩ := p2999
                              have f3013 : g_fr n SH [] [128, 129, 130, 132, 133, 134, 135, 136] [] FI1321 FI3001 := gf_old f3003
                              have f3014 : g_fr n SH [] [131] [] FL1322 FL3002 := gf_old f3004
                              have rl3015 : rl_b (FI3001 139) (FI3001 140) (FI3001 141) := by rw [show FI3001 139 = FI1321 139 from f3003.2 139 (by decide) (by decide), show FI3001 140 = FI1321 140 from f3003.2 140 (by decide) (by decide), show FI3001 141 = FI1321 141 from f3003.2 141 (by decide) (by decide)]; exact rl1331
                              have hI3016 : g_I FI3001 := g_old hI1334 f3003 g_k0 (g_kc (P := fun q => ∀ i, (g_r q i).1 ≤ (FI3001 q i).toInt ∧ (FI3001 q i).toInt ≤ (g_r q i).2) (gB_128 ai3006) (g_kc (P := fun q => ∀ i, (g_r q i).1 ≤ (FI3001 q i).toInt ∧ (FI3001 q i).toInt ≤ (g_r q i).2) (gB_129 ai3007) (g_kc (P := fun q => ∀ i, (g_r q i).1 ≤ (FI3001 q i).toInt ∧ (FI3001 q i).toInt ≤ (g_r q i).2) (fun i => g_full rfl) (g_kc (P := fun q => ∀ i, (g_r q i).1 ≤ (FI3001 q i).toInt ∧ (FI3001 q i).toInt ≤ (g_r q i).2) (gB_132 ai3008) (g_kc (P := fun q => ∀ i, (g_r q i).1 ≤ (FI3001 q i).toInt ∧ (FI3001 q i).toInt ≤ (g_r q i).2) (gB_133 ai3009) (g_kc (P := fun q => ∀ i, (g_r q i).1 ≤ (FI3001 q i).toInt ∧ (FI3001 q i).toInt ≤ (g_r q i).2) (fun i => g_full rfl) (g_kc (P := fun q => ∀ i, (g_r q i).1 ≤ (FI3001 q i).toInt ∧ (FI3001 q i).toInt ≤ (g_r q i).2) (gB_135 ai3010) (g_kc (P := fun q => ∀ i, (g_r q i).1 ≤ (FI3001 q i).toInt ∧ (FI3001 q i).toInt ≤ (g_r q i).2) (fun i => g_full rfl) g_k0))))))))
                              show hw sk base _ _ _ _ _ [.int (r3000)] _ _
                              refine hw_ifne (tgt := 611) (aX12_exec 304 rfl) (by decide) rfl (fun cd3017 => ?_) (fun cd3017 => ?_)
                              · refine xw_iload (aX12_exec 310 rfl) rfl ?_
                                refine xw_istore (L2 := [(5, .int (x1337)), (0, .ref (base + 121)), (1, .int ((1 : Int32))), (2, .int (a2)), (3, .int (a3)), (4, .int ((1 : Int32))), (6, .int (y6)), (7, .int (y7)), (9, .int (x1274)), (11, .int (x1337)), (12, .long (x1339)), (14, .long (x1341))]) (aX12_exec 311 rfl) (by decide) rfl ?_
                                refine xw_goto (tgt := 18) (aX12_exec 312 rfl) (by decide) ?_
                                exact hw_L (ih (y7) (y6) (x1337) ((1 : Int32)) FI3001 FL3002 (gf_tr ex_rf (gf_tr ex_rf (gf_f (gf_f (gf_f fr35 u1280 (by decide)) u1290 (by decide)) u1312 (by decide)) f1329 rfl rfl rfl) f3013 rfl rfl rfl) (gf_tr ex_rf (gf_tr ex_rf fr36 f1330 rfl rfl rfl) f3014 rfl rfl rfl) hI3016 (show FI3001 121 5 = x5 from (gf_at f3013 (c121 hS) (s121 hS) rfl ((gf_at f1329 (c121 hS) (s121 hS) rfl ((up_k u1312 (by decide) ((up_k u1290 (by decide) ((up_k u1280 (by decide) (kp38))))))))))) (show FI3001 121 6 = x8 from (gf_at f3013 (c121 hS) (s121 hS) rfl ((gf_at f1329 (c121 hS) (s121 hS) rfl ((up_k u1312 (by decide) ((up_k u1290 (by decide) ((up_k u1280 (by decide) (kp39))))))))))) (show rl_h 2 (FI3001 136) (FL3002 137) (FI3001 138) from rl3011) (show rl_h 32 (FI3001 130) (FL3002 131) (FI3001 134) from rl3012) (show rl_b (FI3001 139) (FI3001 140) (FI3001 141) from rl3015) (by have := ((by decide : (1 : Int32).toInt = 1) : ((1 : Int32)).toInt = 1); omega) (by have := ((by decide : (1 : Int32).toInt = 1) : ((1 : Int32)).toInt = 1); omega) (by have := ((by decide : (1 : Int32).toInt = 1) : ((1 : Int32)).toInt = 1); omega) (by have := ((by decide : (1 : Int32).toInt = 1) : ((1 : Int32)).toInt = 1); omega) (by have := ((by decide : (1 : Int32).toInt = 1) : ((1 : Int32)).toInt = 1); have := congrArg Int32.toInt (show FI3001 121 29 = x55 from (gf_at f3013 (c121 hS) (s121 hS) rfl ((gf_at f1329 (c121 hS) (s121 hS) rfl ((up_k u1312 (by decide) ((up_k u1290 (by decide) ((up_k u1280 (by decide) (h56))))))))))); omega) (by have := ((by decide : (1 : Int32).toInt = 1) : ((1 : Int32)).toInt = 1); have := congrArg Int32.toInt (show FI3001 121 30 = x1277 from (gf_at f3013 (c121 hS) (s121 hS) rfl ((gf_at f1329 (c121 hS) (s121 hS) rfl ((up_k u1312 (by decide) ((up_k u1290 (by decide) (up_eq u1280))))))))); have := (e1278 : (x1277).toInt = ((x57).toInt) - (1)); omega) (by have := ((by decide : (1 : Int32).toInt = 1) : ((1 : Int32)).toInt = 1); omega) (by have := ((by decide : (1 : Int32).toInt = 1) : ((1 : Int32)).toInt = 1); omega) (by have := ((by decide : (1 : Int32).toInt = 1) : ((1 : Int32)).toInt = 1); omega) (by have := ((by decide : (1 : Int32).toInt = 1) : ((1 : Int32)).toInt = 1); omega) (by have := ((by decide : (1 : Int32).toInt = 1) : ((1 : Int32)).toInt = 1); have := congrArg Int32.toInt (show FI3001 142 1 = x59 from (gf_at f3013 (c142 hS) (s142 hS) rfl ((gf_at f1329 (c142 hS) (s142 hS) rfl ((up_c u1312 (by decide) ((up_c u1290 (by decide) ((up_c u1280 (by decide) (h60))))))))))); have := congrArg Int32.toInt (show FI3001 121 29 = x55 from (gf_at f3013 (c121 hS) (s121 hS) rfl ((gf_at f1329 (c121 hS) (s121 hS) rfl ((up_k u1312 (by decide) ((up_k u1290 (by decide) ((up_k u1280 (by decide) (h56))))))))))); omega) (by have := ((by decide : (1 : Int32).toInt = 1) : ((1 : Int32)).toInt = 1); have := congrArg Int32.toInt (show FI3001 121 29 = x55 from (gf_at f3013 (c121 hS) (s121 hS) rfl ((gf_at f1329 (c121 hS) (s121 hS) rfl ((up_k u1312 (by decide) ((up_k u1290 (by decide) ((up_k u1280 (by decide) (h56))))))))))); have := congrArg Int32.toInt (show FI3001 121 30 = x1277 from (gf_at f3013 (c121 hS) (s121 hS) rfl ((gf_at f1329 (c121 hS) (s121 hS) rfl ((up_k u1312 (by decide) ((up_k u1290 (by decide) (up_eq u1280))))))))); have := (e1278 : (x1277).toInt = ((x57).toInt) - (1)); omega)) ⟨rfl, rfl, rfl, rfl, rfl, rfl, rfl, rfl, trivial⟩
                              · refine hw_aloadn (aX12_exec 305 rfl) rfl ?_
                                refine hw_bp (v := (13 : Int32)) (aX12_exec 306 rfl) (by decide) ?_
                                refine xw_iload (aX12_exec 307 rfl) rfl ?_
                                refine hw_callV (Bs := [.int ((13 : Int32)), .int (x1274)]) (rest := []) (aX12_exec 308 rfl) wc_RX12_270 (by decide) rfl wi_yX12_fails wv_yX12_fails (c121 hS) (s121 hS) rfl rfl rfl (Nat.le_of_ble_eq_true rfl) (Nat.le_of_ble_eq_true rfl) (m_fails (d := d + 3) hS hF ((13 : Int32)) (x1274) ) (fun v3018 sv3019 p3020 => ?_)
                                have := ((by decide : (13 : Int32).toInt = 13) : ((13 : Int32)).toInt = 13)
                                obtain ⟨r3021, rfl, FI3022, FL3023, rfl, f3024, rfl, t3026⟩ := p3020
                                have f3027 : g_fr n SH [(121, 34)] [] [] FI3001 FI3022 := gf_old f3024
                                have rl3028 : rl_b (FI3022 139) (FI3022 140) (FI3022 141) := by rw [show FI3022 139 = FI3001 139 from f3024.2 139 (by decide) (by decide), show FI3022 140 = FI3001 140 from f3024.2 140 (by decide) (by decide), show FI3022 141 = FI3001 141 from f3024.2 141 (by decide) (by decide)]; exact rl3015
                                have rl3029 : rl_h 2 (FI3022 136) (FL3002 137) (FI3022 138) := by rw [show FI3022 136 = FI3001 136 from f3024.2 136 (by decide) (by decide), show FI3022 138 = FI3001 138 from f3024.2 138 (by decide) (by decide)]; exact rl3011
                                have rl3030 : rl_h 32 (FI3022 130) (FL3002 131) (FI3022 134) := by rw [show FI3022 130 = FI3001 130 from f3024.2 130 (by decide) (by decide), show FI3022 134 = FI3001 134 from f3024.2 134 (by decide) (by decide)]; exact rl3012
                                have hI3031 : g_I FI3022 := g_old hI3016 f3024 (g_kc (P := fun k => (g_r 121 k).1 ≤ (FI3022 121 k).toInt ∧ (FI3022 121 k).toInt ≤ (g_r 121 k).2) (g_full rfl) g_k0) g_k0
                                have rg_r3021 := i_rng r3021
                                show hw sk base _ _ _ _ _ [.int (r3021)] _ _
                                refine xw_iret (aX12_exec 309 rfl) rfl rfl ?_
                                exact ⟨r3021, rfl, FI3022, FL3002, rfl, hI3031, (gf_tr ex_rf (gf_tr ex_rf (gf_tr ex_rf (gf_f (gf_f (gf_f fr35 u1280 (by decide)) u1290 (by decide)) u1312 (by decide)) f1329 rfl rfl rfl) f3013 rfl rfl rfl) f3027 rfl rfl rfl), (gf_tr ex_rf (gf_tr ex_rf fr36 f1330 rfl rfl rfl) f3014 rfl rfl rfl), (show rl_h 2 (FI3022 136) (FL3002 137) (FI3022 138) from rl3029), (show rl_h 32 (FI3022 130) (FL3002 131) (FI3022 134) from rl3030), (show rl_b (FI3022 139) (FI3022 140) (FI3022 141) from rl3028)⟩
                            refine hw_icne (tgt := 591) (aX12_exec 297 rfl) (by decide) rfl (by decide : (157 : Int32).toInt = 157) (fun cd3032 => ?_) (fun cd3032 => ?_)
                            · refine hw_ic (v := (0 : Int32)) (aX12_exec 300 rfl) (by decide) ?_
                              exact hw_L (j2995 ((0 : Int32)) (by have := ((by decide : (0 : Int32).toInt = 0) : ((0 : Int32)).toInt = 0); show 0 ≤ ((0 : Int32)).toInt ∧ ((0 : Int32)).toInt ≤ 1; omega)) ⟨rfl, rfl, rfl, rfl, rfl, rfl, rfl, rfl, rfl, rfl, rfl, trivial⟩
                            · refine hw_ic (v := (1 : Int32)) (aX12_exec 298 rfl) (by decide) ?_
                              refine xw_goto (tgt := 592) (aX12_exec 299 rfl) (by decide) ?_
                              exact hw_L (j2995 ((1 : Int32)) (by have := ((by decide : (1 : Int32).toInt = 1) : ((1 : Int32)).toInt = 1); show 0 ≤ ((1 : Int32)).toInt ∧ ((1 : Int32)).toInt ≤ 1; omega)) ⟨rfl, rfl, rfl, rfl, rfl, rfl, rfl, rfl, rfl, rfl, rfl, trivial⟩
                          refine hw_iceq (tgt := 576) (aX12_exec 289 rfl) (by decide) rfl (by decide : (147 : Int32).toInt = 147) (fun cd3033 => ?_) (fun cd3033 => ?_)
                          · exact hw_L (j2956 (by omega)) ⟨rfl, rfl, rfl, rfl, rfl, rfl, rfl, rfl, rfl, rfl, rfl, rfl, trivial⟩
                          · refine xw_iload (aX12_exec 290 rfl) rfl ?_
                            refine hw_sp (v := (157 : Int32)) (aX12_exec 291 rfl) (by decide) ?_
                            refine hw_icne (tgt := 618) (aX12_exec 292 rfl) (by decide) rfl (by decide : (157 : Int32).toInt = 157) (fun cd3034 => ?_) (fun cd3034 => ?_)
                            · refine hw_aloadn (aX12_exec 313 rfl) rfl ?_
                              refine hw_get (v := .ref (base + 128)) (aX12_exec 314 rfl) wf_RX12_36 (c121 hS) (s121 hS) (by decide) (congrArg (fun r => va_rf (h_rf base r)) (r121_15 hF)) ?_
                              refine xw_iload (aX12_exec 315 rfl) rfl ?_
                              obtain ⟨x3035, h3036⟩ : ∃ y, FI1321 128 1 = y := ⟨_, rfl⟩
                              have h3036l := congrArg Int32.toInt h3036
                              have b3037 := gI_128 (i := 1) hI1334 (by decide); rw [h3036] at b3037
                              refine hw_iald (v := x3035) (aX12_exec 316 rfl) (c128 hS) (s128 hS) (h_in (by decide : (1 : Int32).toInt = 1) (by omega) (by omega)) (show FI1321 128 ((1 : Int32)).toNatClampNeg = x3035 from h3036) ?_
                              refine xw_istore (L2 := [(16, .int (x3035)), (0, .ref (base + 121)), (1, .int ((1 : Int32))), (2, .int (a2)), (3, .int (a3)), (4, .int ((1 : Int32))), (6, .int (y6)), (7, .int (y7)), (8, .int (x720)), (9, .int (x1274)), (10, .int (x1295)), (11, .int (x1337)), (12, .long (x1339)), (14, .long (x1341))]) (aX12_exec 317 rfl) (by decide) rfl ?_
                              refine xw_iload (aX12_exec 318 rfl) rfl ?_
                              refine hw_aloadn (aX12_exec 319 rfl) rfl ?_
                              refine xw_iload (aX12_exec 320 rfl) rfl ?_
                              have z3038 := hid_e t1326 
                              refine hw_callV (Bs := [.int (x1295)]) (rest := [.int (x3035)]) (aX12_exec 321 rfl) wc_RX12_321 (by decide) rfl wi_yX12_wants wv_yX12_wants (c121 hS) (s121 hS) rfl rfl rfl (Nat.le_of_ble_eq_true rfl) (Nat.le_of_ble_eq_true rfl) (m_wants (d := d + 3) hS hF (x1295) (by unfold hid; have := congrArg Int64.toInt (show FL1322 121 35 = x1339 from h1340); have := congrArg Int64.toInt (show FL1322 121 35 = x1339 from h1340); omega)) (fun v3039 sv3040 p3041 => ?_)
                              have := congrArg Int64.toInt (show FL1322 121 35 = x1339 from h1340)
                              obtain ⟨r3042, rfl, FI3043, FL3044, rfl, rfl, rfl, t3047, t3048, t3049, t3050⟩ := p3041
                              have rg_r3042 := i_rng r3042
                              show hw sk base _ _ _ _ _ [.int (r3042), .int (x3035)] _ _
                              refine hw_icge (tgt := 646) (aX12_exec 322 rfl) (by decide) rfl rfl (fun cd3051 => ?_) (fun cd3051 => ?_)
                              · refine xw_iload (aX12_exec 328 rfl) rfl ?_
                                have j3352 : ∀ (g3059 : Int64), (∀ i : Int32, i.toInt = (x720).toInt + (x3035).toInt - 1 → 0 < (x3035).toInt → FL1322 127 i.toNatClampNeg = (g3059)) → hw sk base (d + 4) none 181 667 [(0, .ref (base + 121)), (1, .int ((1 : Int32))), (2, .int (a2)), (3, .int (a3)), (4, .int ((1 : Int32))), (6, .int (y6)), (7, .int (y7)), (8, .int (x720)), (9, .int (x1274)), (10, .int (x1295)), (11, .int (x1337)), (12, .long (x1339)), (14, .long (x1341)), (16, .int (x3035))] [.long (g3059)] (n, sl, SH, FI1321, FL1322, FR) (h_I (fun r s => ∃ FI' FL', s = (n, sl, SH, FI', FL', FR) ∧ g_I FI' ∧ g_fr n SH [(121, 29), (121, 30), (121, 31), (121, 32), (121, 34), (121, 37), (121, 38)] [128, 129, 130, 132, 133, 134, 135, 136, 138, 139, 140, 141, 142] [] FI FI' ∧ g_fr n SH [(121, 35), (121, 36), (121, 39)] [127, 131, 137] [] FL FL' ∧ (rl_h 2 (FI' 136) (FL' 137) (FI' 138)) ∧ (rl_h 32 (FI' 130) (FL' 131) (FI' 134)) ∧ (rl_b (FI' 139) (FI' 140) (FI' 141)))) := by
                                  intro g3059 fc667_0
                                  have rg_g3059 := l_rng g3059
                                  refine xw_lstore (L2 := [(17, .long (g3059)), (0, .ref (base + 121)), (1, .int ((1 : Int32))), (2, .int (a2)), (3, .int (a3)), (4, .int ((1 : Int32))), (6, .int (y6)), (7, .int (y7)), (8, .int (x720)), (9, .int (x1274)), (10, .int (x1295)), (11, .int (x1337)), (12, .long (x1339)), (14, .long (x1341)), (16, .int (x3035))]) (aX12_exec 340 rfl) (by decide) rfl ?_
                                  refine xw_iload (aX12_exec 341 rfl) rfl ?_
                                  refine hw_ic (v := (1 : Int32)) (aX12_exec 342 rfl) (by decide) ?_
                                  have j3645 : ∀ (g3360 : Int64), hw sk base (d + 4) none 181 691 [(0, .ref (base + 121)), (1, .int ((1 : Int32))), (2, .int (a2)), (3, .int (a3)), (4, .int ((1 : Int32))), (6, .int (y6)), (7, .int (y7)), (8, .int (x720)), (9, .int (x1274)), (10, .int (x1295)), (11, .int (x1337)), (12, .long (x1339)), (14, .long (x1341)), (16, .int (x3035)), (17, .long (g3059))] [.long (g3360)] (n, sl, SH, FI1321, FL1322, FR) (h_I (fun r s => ∃ FI' FL', s = (n, sl, SH, FI', FL', FR) ∧ g_I FI' ∧ g_fr n SH [(121, 29), (121, 30), (121, 31), (121, 32), (121, 34), (121, 37), (121, 38)] [128, 129, 130, 132, 133, 134, 135, 136, 138, 139, 140, 141, 142] [] FI FI' ∧ g_fr n SH [(121, 35), (121, 36), (121, 39)] [127, 131, 137] [] FL FL' ∧ (rl_h 2 (FI' 136) (FL' 137) (FI' 138)) ∧ (rl_h 32 (FI' 130) (FL' 131) (FI' 134)) ∧ (rl_b (FI' 139) (FI' 140) (FI' 141)))) := by
                                    intro g3360
                                    have rg_g3360 := l_rng g3360
                                    refine xw_lstore (L2 := [(19, .long (g3360)), (0, .ref (base + 121)), (1, .int ((1 : Int32))), (2, .int (a2)), (3, .int (a3)), (4, .int ((1 : Int32))), (6, .int (y6)), (7, .int (y7)), (8, .int (x720)), (9, .int (x1274)), (10, .int (x1295)), (11, .int (x1337)), (12, .long (x1339)), (14, .long (x1341)), (16, .int (x3035)), (17, .long (g3059))]) (aX12_exec 354 rfl) (by decide) rfl ?_
                                    refine xw_iload (aX12_exec 355 rfl) rfl ?_
                                    refine hw_sp (v := (152 : Int32)) (aX12_exec 356 rfl) (by decide) ?_
                                    have j3930 : (hid (((x1295).toInt = 152 ∨ (x1295).toInt = 153) → ((x1339).toInt ≤ 15 ∧ (x55).toInt ≠ 8))) → hw sk base (d + 4) none 181 736 [(0, .ref (base + 121)), (1, .int ((1 : Int32))), (2, .int (a2)), (3, .int (a3)), (4, .int ((1 : Int32))), (6, .int (y6)), (7, .int (y7)), (8, .int (x720)), (9, .int (x1274)), (10, .int (x1295)), (11, .int (x1337)), (12, .long (x1339)), (14, .long (x1341)), (16, .int (x3035)), (17, .long (g3059)), (19, .long (g3360))] [] (n, sl, SH, FI1321, FL1322, FR) (h_I (fun r s => ∃ FI' FL', s = (n, sl, SH, FI', FL', FR) ∧ g_I FI' ∧ g_fr n SH [(121, 29), (121, 30), (121, 31), (121, 32), (121, 34), (121, 37), (121, 38)] [128, 129, 130, 132, 133, 134, 135, 136, 138, 139, 140, 141, 142] [] FI FI' ∧ g_fr n SH [(121, 35), (121, 36), (121, 39)] [127, 131, 137] [] FL FL' ∧ (rl_h 2 (FI' 136) (FL' 137) (FI' 138)) ∧ (rl_h 32 (FI' 130) (FL' 131) (FI' 134)) ∧ (rl_b (FI' 139) (FI' 140) (FI' 141)))) := by
                                      intro fc736_0
                                      refine xw_iload (aX12_exec 374 rfl) rfl ?_
                                      refine hw_sp (v := (151 : Int32)) (aX12_exec 375 rfl) (by decide) ?_
                                      have j4197 : hw sk base (d + 4) none 181 804 [(0, .ref (base + 121)), (9, .int (x1274))] [] (n, sl, SH, FI1321, FL1322, FR) (h_I (fun r s => ∃ FI' FL', s = (n, sl, SH, FI', FL', FR) ∧ g_I FI' ∧ g_fr n SH [(121, 29), (121, 30), (121, 31), (121, 32), (121, 34), (121, 37), (121, 38)] [128, 129, 130, 132, 133, 134, 135, 136, 138, 139, 140, 141, 142] [] FI FI' ∧ g_fr n SH [(121, 35), (121, 36), (121, 39)] [127, 131, 137] [] FL FL' ∧ (rl_h 2 (FI' 136) (FL' 137) (FI' 138)) ∧ (rl_h 32 (FI' 130) (FL' 131) (FI' 134)) ∧ (rl_b (FI' 139) (FI' 140) (FI' 141)))) := by
                                        refine hw_aloadn (aX12_exec 403 rfl) rfl ?_
                                        refine hw_bp (v := (11 : Int32)) (aX12_exec 404 rfl) (by decide) ?_
                                        refine xw_iload (aX12_exec 405 rfl) rfl ?_
                                        refine hw_callV (Bs := [.int ((11 : Int32)), .int (x1274)]) (rest := []) (aX12_exec 406 rfl) wc_RX12_270 (by decide) rfl wi_yX12_fails wv_yX12_fails (c121 hS) (s121 hS) rfl rfl rfl (Nat.le_of_ble_eq_true rfl) (Nat.le_of_ble_eq_true rfl) (m_fails (d := d + 3) hS hF ((11 : Int32)) (x1274) ) (fun v4198 sv4199 p4200 => ?_)
                                        have := ((by decide : (11 : Int32).toInt = 11) : ((11 : Int32)).toInt = 11)
                                        obtain ⟨r4201, rfl, FI4202, FL4203, rfl, f4204, rfl, t4206⟩ := p4200
                                        have f4207 : g_fr n SH [(121, 34)] [] [] FI1321 FI4202 := gf_old f4204
                                        have rl4208 : rl_b (FI4202 139) (FI4202 140) (FI4202 141) := by rw [show FI4202 139 = FI1321 139 from f4204.2 139 (by decide) (by decide), show FI4202 140 = FI1321 140 from f4204.2 140 (by decide) (by decide), show FI4202 141 = FI1321 141 from f4204.2 141 (by decide) (by decide)]; exact rl1331
                                        have rl4209 : rl_h 2 (FI4202 136) (FL1322 137) (FI4202 138) := by rw [show FI4202 136 = FI1321 136 from f4204.2 136 (by decide) (by decide), show FI4202 138 = FI1321 138 from f4204.2 138 (by decide) (by decide)]; exact rl1332
                                        have rl4210 : rl_h 32 (FI4202 130) (FL1322 131) (FI4202 134) := by rw [show FI4202 130 = FI1321 130 from f4204.2 130 (by decide) (by decide), show FI4202 134 = FI1321 134 from f4204.2 134 (by decide) (by decide)]; exact rl1333
                                        have hI4211 : g_I FI4202 := g_old hI1334 f4204 (g_kc (P := fun k => (g_r 121 k).1 ≤ (FI4202 121 k).toInt ∧ (FI4202 121 k).toInt ≤ (g_r 121 k).2) (g_full rfl) g_k0) g_k0
                                        have rg_r4201 := i_rng r4201
                                        show hw sk base _ _ _ _ _ [.int (r4201)] _ _
                                        refine xw_iret (aX12_exec 407 rfl) rfl rfl ?_
                                        exact ⟨r4201, rfl, FI4202, FL1322, rfl, hI4211, (gf_tr ex_rf (gf_tr ex_rf (gf_f (gf_f (gf_f fr35 u1280 (by decide)) u1290 (by decide)) u1312 (by decide)) f1329 rfl rfl rfl) f4207 rfl rfl rfl), (gf_tr ex_rf fr36 f1330 rfl rfl rfl), (show rl_h 2 (FI4202 136) (FL1322 137) (FI4202 138) from rl4209), (show rl_h 32 (FI4202 130) (FL1322 131) (FI4202 134) from rl4210), (show rl_b (FI4202 139) (FI4202 140) (FI4202 141) from rl4208)⟩
                                      have j4212 : hw sk base (d + 4) none 181 751 [(0, .ref (base + 121)), (1, .int ((1 : Int32))), (2, .int (a2)), (3, .int (a3)), (4, .int ((1 : Int32))), (6, .int (y6)), (7, .int (y7)), (8, .int (x720)), (9, .int (x1274)), (10, .int (x1295)), (11, .int (x1337)), (12, .long (x1339)), (14, .long (x1341)), (16, .int (x3035)), (17, .long (g3059)), (19, .long (g3360))] [] (n, sl, SH, FI1321, FL1322, FR) (h_I (fun r s => ∃ FI' FL', s = (n, sl, SH, FI', FL', FR) ∧ g_I FI' ∧ g_fr n SH [(121, 29), (121, 30), (121, 31), (121, 32), (121, 34), (121, 37), (121, 38)] [128, 129, 130, 132, 133, 134, 135, 136, 138, 139, 140, 141, 142] [] FI FI' ∧ g_fr n SH [(121, 35), (121, 36), (121, 39)] [127, 131, 137] [] FL FL' ∧ (rl_h 2 (FI' 136) (FL' 137) (FI' 138)) ∧ (rl_h 32 (FI' 130) (FL' 131) (FI' 134)) ∧ (rl_b (FI' 139) (FI' 140) (FI' 141)))) := by
                                        refine xw_iload (aX12_exec 380 rfl) rfl ?_
                                        refine hw_sp (v := (155 : Int32)) (aX12_exec 381 rfl) (by decide) ?_
                                        have j4460 : hw sk base (d + 4) none 181 766 [(0, .ref (base + 121)), (1, .int ((1 : Int32))), (2, .int (a2)), (3, .int (a3)), (4, .int ((1 : Int32))), (6, .int (y6)), (7, .int (y7)), (8, .int (x720)), (9, .int (x1274)), (10, .int (x1295)), (11, .int (x1337)), (12, .long (x1339)), (14, .long (x1341)), (16, .int (x3035)), (17, .long (g3059)), (19, .long (g3360))] [] (n, sl, SH, FI1321, FL1322, FR) (h_I (fun r s => ∃ FI' FL', s = (n, sl, SH, FI', FL', FR) ∧ g_I FI' ∧ g_fr n SH [(121, 29), (121, 30), (121, 31), (121, 32), (121, 34), (121, 37), (121, 38)] [128, 129, 130, 132, 133, 134, 135, 136, 138, 139, 140, 141, 142] [] FI FI' ∧ g_fr n SH [(121, 35), (121, 36), (121, 39)] [127, 131, 137] [] FL FL' ∧ (rl_h 2 (FI' 136) (FL' 137) (FI' 138)) ∧ (rl_h 32 (FI' 130) (FL' 131) (FI' 134)) ∧ (rl_b (FI' 139) (FI' 140) (FI' 141)))) := by
                                          refine xw_iload (aX12_exec 386 rfl) rfl ?_
                                          refine hw_sp (v := (156 : Int32)) (aX12_exec 387 rfl) (by decide) ?_
                                          have j4703 : (hid ((x1295).toInt = 156 → (x8).toInt ≠ -1)) → hw sk base (d + 4) none 181 782 [(0, .ref (base + 121)), (1, .int ((1 : Int32))), (2, .int (a2)), (3, .int (a3)), (4, .int ((1 : Int32))), (6, .int (y6)), (7, .int (y7)), (8, .int (x720)), (9, .int (x1274)), (10, .int (x1295)), (11, .int (x1337)), (12, .long (x1339)), (14, .long (x1341)), (16, .int (x3035)), (17, .long (g3059)), (19, .long (g3360))] [] (n, sl, SH, FI1321, FL1322, FR) (h_I (fun r s => ∃ FI' FL', s = (n, sl, SH, FI', FL', FR) ∧ g_I FI' ∧ g_fr n SH [(121, 29), (121, 30), (121, 31), (121, 32), (121, 34), (121, 37), (121, 38)] [128, 129, 130, 132, 133, 134, 135, 136, 138, 139, 140, 141, 142] [] FI FI' ∧ g_fr n SH [(121, 35), (121, 36), (121, 39)] [127, 131, 137] [] FL FL' ∧ (rl_h 2 (FI' 136) (FL' 137) (FI' 138)) ∧ (rl_h 32 (FI' 130) (FL' 131) (FI' 134)) ∧ (rl_b (FI' 139) (FI' 140) (FI' 141)))) := by
                                            intro fc782_0
                                            refine xw_iload (aX12_exec 393 rfl) rfl ?_
                                            refine hw_sp (v := (145 : Int32)) (aX12_exec 394 rfl) (by decide) ?_
                                            refine hw_icne (tgt := 813) (aX12_exec 395 rfl) (by decide) rfl (by decide : (145 : Int32).toInt = 145) (fun cd4944 => ?_) (fun cd4944 => ?_)
                                            · refine xw_iload (aX12_exec 408 rfl) rfl ?_
                                              refine hw_sp (v := (145 : Int32)) (aX12_exec 409 rfl) (by decide) ?_
                                              refine hw_icne (tgt := 898) (aX12_exec 410 rfl) (by decide) rfl (by decide : (145 : Int32).toInt = 145) (fun cd4945 => ?_) (fun cd4945 => ?_)
                                              · refine xw_iload (aX12_exec 451 rfl) rfl ?_
                                                refine hw_bp (v := (6 : Int32)) (aX12_exec 452 rfl) (by decide) ?_
                                                have j5183 : hw sk base (d + 4) none 181 936 [(0, .ref (base + 121)), (9, .int (x1274))] [] (n, sl, SH, FI1321, FL1322, FR) (h_I (fun r s => ∃ FI' FL', s = (n, sl, SH, FI', FL', FR) ∧ g_I FI' ∧ g_fr n SH [(121, 29), (121, 30), (121, 31), (121, 32), (121, 34), (121, 37), (121, 38)] [128, 129, 130, 132, 133, 134, 135, 136, 138, 139, 140, 141, 142] [] FI FI' ∧ g_fr n SH [(121, 35), (121, 36), (121, 39)] [127, 131, 137] [] FL FL' ∧ (rl_h 2 (FI' 136) (FL' 137) (FI' 138)) ∧ (rl_h 32 (FI' 130) (FL' 131) (FI' 134)) ∧ (rl_b (FI' 139) (FI' 140) (FI' 141)))) := by
                                                  refine hw_aloadn (aX12_exec 467 rfl) rfl ?_
                                                  refine hw_ic (v := (5 : Int32)) (aX12_exec 468 rfl) (by decide) ?_
                                                  refine xw_iload (aX12_exec 469 rfl) rfl ?_
                                                  refine hw_callV (Bs := [.int ((5 : Int32)), .int (x1274)]) (rest := []) (aX12_exec 470 rfl) wc_RX12_270 (by decide) rfl wi_yX12_fails wv_yX12_fails (c121 hS) (s121 hS) rfl rfl rfl (Nat.le_of_ble_eq_true rfl) (Nat.le_of_ble_eq_true rfl) (m_fails (d := d + 3) hS hF ((5 : Int32)) (x1274) ) (fun v5184 sv5185 p5186 => ?_)
                                                  have := ((by decide : (5 : Int32).toInt = 5) : ((5 : Int32)).toInt = 5)
                                                  obtain ⟨r5187, rfl, FI5188, FL5189, rfl, f5190, rfl, t5192⟩ := p5186
                                                  have f5193 : g_fr n SH [(121, 34)] [] [] FI1321 FI5188 := gf_old f5190
                                                  have rl5194 : rl_b (FI5188 139) (FI5188 140) (FI5188 141) := by rw [show FI5188 139 = FI1321 139 from f5190.2 139 (by decide) (by decide), show FI5188 140 = FI1321 140 from f5190.2 140 (by decide) (by decide), show FI5188 141 = FI1321 141 from f5190.2 141 (by decide) (by decide)]; exact rl1331
                                                  have rl5195 : rl_h 2 (FI5188 136) (FL1322 137) (FI5188 138) := by rw [show FI5188 136 = FI1321 136 from f5190.2 136 (by decide) (by decide), show FI5188 138 = FI1321 138 from f5190.2 138 (by decide) (by decide)]; exact rl1332
                                                  have rl5196 : rl_h 32 (FI5188 130) (FL1322 131) (FI5188 134) := by rw [show FI5188 130 = FI1321 130 from f5190.2 130 (by decide) (by decide), show FI5188 134 = FI1321 134 from f5190.2 134 (by decide) (by decide)]; exact rl1333
                                                  have hI5197 : g_I FI5188 := g_old hI1334 f5190 (g_kc (P := fun k => (g_r 121 k).1 ≤ (FI5188 121 k).toInt ∧ (FI5188 121 k).toInt ≤ (g_r 121 k).2) (g_full rfl) g_k0) g_k0
                                                  have rg_r5187 := i_rng r5187
                                                  show hw sk base _ _ _ _ _ [.int (r5187)] _ _
                                                  refine xw_iret (aX12_exec 471 rfl) rfl rfl ?_
                                                  exact ⟨r5187, rfl, FI5188, FL1322, rfl, hI5197, (gf_tr ex_rf (gf_tr ex_rf (gf_f (gf_f (gf_f fr35 u1280 (by decide)) u1290 (by decide)) u1312 (by decide)) f1329 rfl rfl rfl) f5193 rfl rfl rfl), (gf_tr ex_rf fr36 f1330 rfl rfl rfl), (show rl_h 2 (FI5188 136) (FL1322 137) (FI5188 138) from rl5195), (show rl_h 32 (FI5188 130) (FL1322 131) (FI5188 134) from rl5196), (show rl_b (FI5188 139) (FI5188 140) (FI5188 141) from rl5194)⟩
                                                have j5198 : (hid ((x1295).toInt = 6 → (0 ≤ (g3059).toInt ∧ (g3059).toInt ≤ 4088))) → hw sk base (d + 4) none 181 917 [(0, .ref (base + 121)), (1, .int ((1 : Int32))), (2, .int (a2)), (3, .int (a3)), (4, .int ((1 : Int32))), (6, .int (y6)), (7, .int (y7)), (8, .int (x720)), (9, .int (x1274)), (10, .int (x1295)), (11, .int (x1337)), (12, .long (x1339)), (14, .long (x1341)), (16, .int (x3035)), (17, .long (g3059)), (19, .long (g3360))] [] (n, sl, SH, FI1321, FL1322, FR) (h_I (fun r s => ∃ FI' FL', s = (n, sl, SH, FI', FL', FR) ∧ g_I FI' ∧ g_fr n SH [(121, 29), (121, 30), (121, 31), (121, 32), (121, 34), (121, 37), (121, 38)] [128, 129, 130, 132, 133, 134, 135, 136, 138, 139, 140, 141, 142] [] FI FI' ∧ g_fr n SH [(121, 35), (121, 36), (121, 39)] [127, 131, 137] [] FL FL' ∧ (rl_h 2 (FI' 136) (FL' 137) (FI' 138)) ∧ (rl_h 32 (FI' 130) (FL' 131) (FI' 134)) ∧ (rl_b (FI' 139) (FI' 140) (FI' 141)))) := by
                                                  intro fc917_0
                                                  refine xw_iload (aX12_exec 459 rfl) rfl ?_
                                                  refine hw_sp (v := (148 : Int32)) (aX12_exec 460 rfl) (by decide) ?_
                                                  have j5410 : (hid ((x1295).toInt = 6 → (0 ≤ (g3059).toInt ∧ (g3059).toInt ≤ 4088))) → (hid ((x1295).toInt = 148 → (0 ≤ (g3059).toInt ∧ (g3059).toInt ≤ 4096 - (x1339).toInt))) → hw sk base (d + 4) none 181 944 [(0, .ref (base + 121)), (1, .int ((1 : Int32))), (2, .int (a2)), (3, .int (a3)), (4, .int ((1 : Int32))), (6, .int (y6)), (7, .int (y7)), (8, .int (x720)), (9, .int (x1274)), (10, .int (x1295)), (11, .int (x1337)), (12, .long (x1339)), (14, .long (x1341)), (16, .int (x3035)), (17, .long (g3059)), (19, .long (g3360))] [] (n, sl, SH, FI1321, FL1322, FR) (h_I (fun r s => ∃ FI' FL', s = (n, sl, SH, FI', FL', FR) ∧ g_I FI' ∧ g_fr n SH [(121, 29), (121, 30), (121, 31), (121, 32), (121, 34), (121, 37), (121, 38)] [128, 129, 130, 132, 133, 134, 135, 136, 138, 139, 140, 141, 142] [] FI FI' ∧ g_fr n SH [(121, 35), (121, 36), (121, 39)] [127, 131, 137] [] FL FL' ∧ (rl_h 2 (FI' 136) (FL' 137) (FI' 138)) ∧ (rl_h 32 (FI' 130) (FL' 131) (FI' 134)) ∧ (rl_b (FI' 139) (FI' 140) (FI' 141)))) := by
                                                    intro fc944_0 fc944_1
                                                    refine xw_iload (aX12_exec 472 rfl) rfl ?_
                                                    refine hw_bp (v := (27 : Int32)) (aX12_exec 473 rfl) (by decide) ?_
                                                    have j5610 : (hid (((x1295).toInt = 27 ∨ (x1295).toInt = 29) → (g3059).toInt ≠ 0)) → hw sk base (d + 4) none 181 974 [(0, .ref (base + 121)), (1, .int ((1 : Int32))), (2, .int (a2)), (3, .int (a3)), (4, .int ((1 : Int32))), (6, .int (y6)), (7, .int (y7)), (8, .int (x720)), (9, .int (x1274)), (10, .int (x1295)), (11, .int (x1337)), (12, .long (x1339)), (14, .long (x1341)), (16, .int (x3035)), (17, .long (g3059)), (19, .long (g3360))] [] (n, sl, SH, FI1321, FL1322, FR) (h_I (fun r s => ∃ FI' FL', s = (n, sl, SH, FI', FL', FR) ∧ g_I FI' ∧ g_fr n SH [(121, 29), (121, 30), (121, 31), (121, 32), (121, 34), (121, 37), (121, 38)] [128, 129, 130, 132, 133, 134, 135, 136, 138, 139, 140, 141, 142] [] FI FI' ∧ g_fr n SH [(121, 35), (121, 36), (121, 39)] [127, 131, 137] [] FL FL' ∧ (rl_h 2 (FI' 136) (FL' 137) (FI' 138)) ∧ (rl_h 32 (FI' 130) (FL' 131) (FI' 134)) ∧ (rl_b (FI' 139) (FI' 140) (FI' 141)))) := by
                                                      intro fc974_0
                                                      refine xw_iload (aX12_exec 487 rfl) rfl ?_
                                                      refine xw_istore (L2 := [(21, .int (x1337)), (0, .ref (base + 121)), (1, .int ((1 : Int32))), (2, .int (a2)), (3, .int (a3)), (4, .int ((1 : Int32))), (6, .int (y6)), (7, .int (y7)), (8, .int (x720)), (9, .int (x1274)), (10, .int (x1295)), (11, .int (x1337)), (12, .long (x1339)), (14, .long (x1341)), (16, .int (x3035)), (17, .long (g3059)), (19, .long (g3360))]) (aX12_exec 488 rfl) (by decide) rfl ?_
                                                      refine xw_iload (aX12_exec 489 rfl) rfl ?_
                                                      refine hw_bp (v := (47 : Int32)) (aX12_exec 490 rfl) (by decide) ?_
                                                      have j5793 : ∀ (g5640 : Int32), ((y6).toInt ≤ (g5640).toInt ∧ (g5640).toInt ≤ (y7).toInt) → hw sk base (d + 4) none 181 1039 [(0, .ref (base + 121)), (1, .int ((1 : Int32))), (2, .int (a2)), (3, .int (a3)), (4, .int ((1 : Int32))), (6, .int (y6)), (7, .int (y7)), (8, .int (x720)), (9, .int (x1274)), (10, .int (x1295)), (11, .int (x1337)), (12, .long (x1339)), (14, .long (x1341)), (16, .int (x3035)), (17, .long (g3059)), (19, .long (g3360)), (21, .int (g5640))] [] (n, sl, SH, FI1321, FL1322, FR) (h_I (fun r s => ∃ FI' FL', s = (n, sl, SH, FI', FL', FR) ∧ g_I FI' ∧ g_fr n SH [(121, 29), (121, 30), (121, 31), (121, 32), (121, 34), (121, 37), (121, 38)] [128, 129, 130, 132, 133, 134, 135, 136, 138, 139, 140, 141, 142] [] FI FI' ∧ g_fr n SH [(121, 35), (121, 36), (121, 39)] [127, 131, 137] [] FL FL' ∧ (rl_h 2 (FI' 136) (FL' 137) (FI' 138)) ∧ (rl_h 32 (FI' 130) (FL' 131) (FI' 134)) ∧ (rl_b (FI' 139) (FI' 140) (FI' 141)))) := by
                                                        intro g5640 fc1039_0
                                                        have rg_g5640 := i_rng g5640
                                                        refine hw_aloadn (aX12_exec 522 rfl) rfl ?_
                                                        refine xw_iload (aX12_exec 523 rfl) rfl ?_
                                                        refine hw_callV (Bs := [.int (x1295)]) (rest := []) (aX12_exec 524 rfl) wc_RX12_330 (by decide) rfl wi_yX12_pushes wv_yX12_pushes (c121 hS) (s121 hS) rfl rfl rfl (Nat.le_of_ble_eq_true rfl) (Nat.le_of_ble_eq_true rfl) (m_pushes (d := d + 3) hS hF (x1295) ) (fun v5794 sv5795 p5796 => ?_)
                                                        obtain ⟨r5797, rfl, FI5798, FL5799, rfl, rfl, rfl, t5802, t5803, t5804⟩ := p5796
                                                        show hw sk base _ _ _ _ _ [.int (r5797)] _ _
                                                        have j5946 : (hid (((x1295).toInt = 3 ∨ (8 ≤ (x1295).toInt ∧ (x1295).toInt ≤ 18) ∨ (x1295).toInt = 20 ∨ (x1295).toInt = 21 ∨ (48 ≤ (x1295).toInt ∧ (x1295).toInt ≤ 79) ∨ (112 ≤ (x1295).toInt ∧ (x1295).toInt ≤ 143) ∨ (x1295).toInt = 146 ∨ (x1295).toInt = 151 ∨ (x1295).toInt = 156) → (x3035).toInt ≠ 128)) → hw sk base (d + 4) none 181 1064 [(0, .ref (base + 121)), (1, .int ((1 : Int32))), (2, .int (a2)), (3, .int (a3)), (4, .int ((1 : Int32))), (6, .int (y6)), (7, .int (y7)), (8, .int (x720)), (9, .int (x1274)), (10, .int (x1295)), (11, .int (x1337)), (12, .long (x1339)), (14, .long (x1341)), (16, .int (x3035)), (17, .long (g3059)), (19, .long (g3360)), (21, .int (g5640))] [] (n, sl, SH, FI1321, FL1322, FR) (h_I (fun r s => ∃ FI' FL', s = (n, sl, SH, FI', FL', FR) ∧ g_I FI' ∧ g_fr n SH [(121, 29), (121, 30), (121, 31), (121, 32), (121, 34), (121, 37), (121, 38)] [128, 129, 130, 132, 133, 134, 135, 136, 138, 139, 140, 141, 142] [] FI FI' ∧ g_fr n SH [(121, 35), (121, 36), (121, 39)] [127, 131, 137] [] FL FL' ∧ (rl_h 2 (FI' 136) (FL' 137) (FI' 138)) ∧ (rl_h 32 (FI' 130) (FL' 131) (FI' 134)) ∧ (rl_b (FI' 139) (FI' 140) (FI' 141)))) := by
                                                          intro fc1064_0
                                                          refine xw_iload (aX12_exec 534 rfl) rfl ?_
                                                          refine hw_sp (v := (152 : Int32)) (aX12_exec 535 rfl) (by decide) ?_
                                                          have j6072 : (152 ≤ (x1295).toInt ∧ (x1295).toInt ≤ 153) → ((x1295).toInt = 152 ∨ (x1295).toInt = 153) → hw sk base (d + 4) none 181 1080 [(0, .ref (base + 121)), (1, .int ((1 : Int32))), (2, .int (a2)), (3, .int (a3)), (4, .int ((1 : Int32))), (6, .int (y6)), (7, .int (y7)), (9, .int (x1274)), (10, .int (x1295)), (11, .int (x1337)), (12, .long (x1339))] [] (n, sl, SH, FI1321, FL1322, FR) (h_I (fun r s => ∃ FI' FL', s = (n, sl, SH, FI', FL', FR) ∧ g_I FI' ∧ g_fr n SH [(121, 29), (121, 30), (121, 31), (121, 32), (121, 34), (121, 37), (121, 38)] [128, 129, 130, 132, 133, 134, 135, 136, 138, 139, 140, 141, 142] [] FI FI' ∧ g_fr n SH [(121, 35), (121, 36), (121, 39)] [127, 131, 137] [] FL FL' ∧ (rl_h 2 (FI' 136) (FL' 137) (FI' 138)) ∧ (rl_h 32 (FI' 130) (FL' 131) (FI' 134)) ∧ (rl_b (FI' 139) (FI' 140) (FI' 141)))) := by
                                                            intro q6073 fc1080_0
                                                            have z6074 := hid_e t1327 (by omega)
                                                            have z6 := hid_e fc736_0 (by omega)
                                                            have e6075 : 0 ≤ (x1339).toInt ∧ (x1339).toInt ≤ 15 := by omega
                                                            have e6076 : 0 ≤ (x55).toInt ∧ (x55).toInt ≤ 7 := by omega
                                                            refine xw_iload (aX12_exec 540 rfl) rfl ?_
                                                            refine hw_ifne (tgt := 1100) (aX12_exec 541 rfl) (by decide) (by decide : (1 : Int32).toInt = 1) (fun cd6121 => ?_) (fun cd6121 => ?_)
                                                            · refine hw_aloadn (aX12_exec 550 rfl) rfl ?_
                                                              refine hw_get (v := .ref (base + 139)) (aX12_exec 551 rfl) wf_RX12_69 (c121 hS) (s121 hS) (by decide) (congrArg (fun r => va_rf (h_rf base r)) (r121_26 hF)) ?_
                                                              refine hw_aloadn (aX12_exec 552 rfl) rfl ?_
                                                              refine hw_get (v := .int (x55)) (aX12_exec 553 rfl) wf_RX12_264 (c121 hS) (s121 hS) (by decide) (congrArg Value.int (show FI1321 121 29 = x55 from (gf_at f1329 (c121 hS) (s121 hS) rfl ((up_k u1312 (by decide) ((up_k u1290 (by decide) ((up_k u1280 (by decide) (h56)))))))))) ?_
                                                              refine xw_iload (aX12_exec 554 rfl) rfl ?_
                                                              refine hv_iast (k := (x55).toNatClampNeg) (aX12_exec 555 rfl) (c139 hS) (s139 hS) (h_in rfl (by omega) (by omega)) rfl (fun FI6122 u6123 => ?_)
                                                              have rl6124 : rl_h 2 (FI6122 136) (FL1322 137) (FI6122 138) := by rw [show FI6122 136 = FI1321 136 from up_row u6123 (by decide) rfl, show FI6122 138 = FI1321 138 from up_row u6123 (by decide) rfl]; exact rl1332
                                                              have rl6125 : rl_h 32 (FI6122 130) (FL1322 131) (FI6122 134) := by rw [show FI6122 130 = FI1321 130 from up_row u6123 (by decide) rfl, show FI6122 134 = FI1321 134 from up_row u6123 (by decide) rfl]; exact rl1333
                                                              have hI6126 : g_I FI6122 := gU_F hI1334 u6123 rfl
                                                              refine hw_aloadn (aX12_exec 556 rfl) rfl ?_
                                                              refine hw_get (v := .ref (base + 140)) (aX12_exec 557 rfl) wf_RX12_72 (c121 hS) (s121 hS) (by decide) (congrArg (fun r => va_rf (h_rf base r)) (r121_27 hF)) ?_
                                                              refine hw_aloadn (aX12_exec 558 rfl) rfl ?_
                                                              refine hw_get (v := .int (x55)) (aX12_exec 559 rfl) wf_RX12_264 (c121 hS) (s121 hS) (by decide) (congrArg Value.int (show FI6122 121 29 = x55 from (up_c u6123 (by decide) ((gf_at f1329 (c121 hS) (s121 hS) rfl ((up_k u1312 (by decide) ((up_k u1290 (by decide) ((up_k u1280 (by decide) (h56)))))))))))) ?_
                                                              refine xw_iload (aX12_exec 560 rfl) rfl ?_
                                                              refine hv_iast (k := (x55).toNatClampNeg) (aX12_exec 561 rfl) (c140 hS) (s140 hS) (h_in rfl (by omega) (by omega)) rfl (fun FI6127 u6128 => ?_)
                                                              have rl6129 : rl_h 2 (FI6127 136) (FL1322 137) (FI6127 138) := by rw [show FI6127 136 = FI6122 136 from up_row u6128 (by decide) rfl, show FI6127 138 = FI6122 138 from up_row u6128 (by decide) rfl]; exact rl6124
                                                              have rl6130 : rl_h 32 (FI6127 130) (FL1322 131) (FI6127 134) := by rw [show FI6127 130 = FI6122 130 from up_row u6128 (by decide) rfl, show FI6127 134 = FI6122 134 from up_row u6128 (by decide) rfl]; exact rl6125
                                                              have hI6131 : g_I FI6127 := gU_F hI6126 u6128 rfl
                                                              refine hw_aloadn (aX12_exec 562 rfl) rfl ?_
                                                              refine hw_get (v := .ref (base + 141)) (aX12_exec 563 rfl) wf_RX12_75 (c121 hS) (s121 hS) (by decide) (congrArg (fun r => va_rf (h_rf base r)) (r121_28 hF)) ?_
                                                              refine hw_aloadn (aX12_exec 564 rfl) rfl ?_
                                                              refine hw_get (v := .int (x55)) (aX12_exec 565 rfl) wf_RX12_264 (c121 hS) (s121 hS) (by decide) (congrArg Value.int (show FI6127 121 29 = x55 from (up_c u6128 (by decide) ((up_c u6123 (by decide) ((gf_at f1329 (c121 hS) (s121 hS) rfl ((up_k u1312 (by decide) ((up_k u1290 (by decide) ((up_k u1280 (by decide) (h56)))))))))))))) ?_
                                                              refine xw_iload (aX12_exec 566 rfl) rfl ?_
                                                              refine hv_iast (k := (x55).toNatClampNeg) (aX12_exec 567 rfl) (c141 hS) (s141 hS) (h_in rfl (by omega) (by omega)) rfl (fun FI6132 u6133 => ?_)
                                                              have rl6134 : rl_h 2 (FI6132 136) (FL1322 137) (FI6132 138) := by rw [show FI6132 136 = FI6127 136 from up_row u6133 (by decide) rfl, show FI6132 138 = FI6127 138 from up_row u6133 (by decide) rfl]; exact rl6129
                                                              have rl6135 : rl_h 32 (FI6132 130) (FL1322 131) (FI6132 134) := by rw [show FI6132 130 = FI6127 130 from up_row u6133 (by decide) rfl, show FI6132 134 = FI6127 134 from up_row u6133 (by decide) rfl]; exact rl6130
                                                              have hI6136 : g_I FI6132 := gU_F hI6131 u6133 rfl
                                                              have rl6137 : rl_b (FI6132 139) (FI6132 140) (FI6132 141) := by rw [show FI6132 139 = va_up (FI1321 139) ((x55).toNatClampNeg) (x1337) from (up_row u6133 (by decide) ((up_row u6128 (by decide) ((up_va u6123 (rfl)))))), show FI6132 140 = va_up (FI1321 140) ((x55).toNatClampNeg) (y6) from (up_row u6133 (by decide) ((up_va u6128 ((up_row u6123 (by decide) (rfl)))))), show FI6132 141 = va_up (FI1321 141) ((x55).toNatClampNeg) (y7) from (up_va u6133 ((up_row u6128 (by decide) ((up_row u6123 (by decide) (rfl))))))]; exact rl_b_up rl1331 (by omega) (by omega) (by omega) (by omega) (by omega)
                                                              refine hw_aloadn (aX12_exec 568 rfl) rfl ?_
                                                              refine hw_aloadn (aX12_exec 569 rfl) rfl ?_
                                                              refine hw_get (v := .int (x55)) (aX12_exec 570 rfl) wf_RX12_264 (c121 hS) (s121 hS) (by decide) (congrArg Value.int (show FI6132 121 29 = x55 from (up_c u6133 (by decide) ((up_c u6128 (by decide) ((up_c u6123 (by decide) ((gf_at f1329 (c121 hS) (s121 hS) rfl ((up_k u1312 (by decide) ((up_k u1290 (by decide) ((up_k u1280 (by decide) (h56)))))))))))))))) ?_
                                                              refine hw_ic (v := (1 : Int32)) (aX12_exec 571 rfl) (by decide) ?_
                                                              refine xw_iadd (aX12_exec 572 rfl) ?_
                                                              refine hw_tie (A := ((x55).toInt) + (1)) (i_add rfl (by decide : (1 : Int32).toInt = 1) (by omega) (by omega)) (fun x6138 e6139 => ?_)
                                                              refine hv_puti (aX12_exec 573 rfl) wf_RX12_264 (c121 hS) (s121 hS) (by decide) rfl rfl (fun FI6140 u6141 => ?_)
                                                              have rl6142 : rl_h 2 (FI6140 136) (FL1322 137) (FI6140 138) := by rw [show FI6140 136 = FI6132 136 from up_row u6141 (by decide) rfl, show FI6140 138 = FI6132 138 from up_row u6141 (by decide) rfl]; exact rl6134
                                                              have rl6143 : rl_h 32 (FI6140 130) (FL1322 131) (FI6140 134) := by rw [show FI6140 130 = FI6132 130 from up_row u6141 (by decide) rfl, show FI6140 134 = FI6132 134 from up_row u6141 (by decide) rfl]; exact rl6135
                                                              have rl6144 : rl_b (FI6140 139) (FI6140 140) (FI6140 141) := by rw [show FI6140 139 = FI6132 139 from up_row u6141 (by decide) rfl, show FI6140 140 = FI6132 140 from up_row u6141 (by decide) rfl, show FI6140 141 = FI6132 141 from up_row u6141 (by decide) rfl]; exact rl6137
                                                              have hI6145 : g_I FI6140 := gU_F hI6136 u6141 rfl
                                                              refine hw_aloadn (aX12_exec 574 rfl) rfl ?_
                                                              refine hw_get (v := .ref (base + 142)) (aX12_exec 575 rfl) wf_RX12_78 (c121 hS) (s121 hS) (by decide) (congrArg (fun r => va_rf (h_rf base r)) (r121_45 hF)) ?_
                                                              refine xw_iload (aX12_exec 576 rfl) rfl ?_
                                                              refine hw_aloadn (aX12_exec 577 rfl) rfl ?_
                                                              refine hw_get (v := .ref (base + 142)) (aX12_exec 578 rfl) wf_RX12_78 (c121 hS) (s121 hS) (by decide) (congrArg (fun r => va_rf (h_rf base r)) (r121_45 hF)) ?_
                                                              refine xw_iload (aX12_exec 579 rfl) rfl ?_
                                                              refine hw_iald (v := x59) (aX12_exec 580 rfl) (c142 hS) (s142 hS) (h_in (by decide : (1 : Int32).toInt = 1) (by omega) (by omega)) (show FI6140 142 ((1 : Int32)).toNatClampNeg = x59 from (up_c u6141 (by decide) ((up_c u6133 (by decide) ((up_c u6128 (by decide) ((up_c u6123 (by decide) ((gf_at f1329 (c142 hS) (s142 hS) rfl ((up_c u1312 (by decide) ((up_c u1290 (by decide) ((up_c u1280 (by decide) (h60))))))))))))))))) ?_
                                                              refine hw_ic (v := (1 : Int32)) (aX12_exec 581 rfl) (by decide) ?_
                                                              refine xw_iadd (aX12_exec 582 rfl) ?_
                                                              refine hw_tie (A := ((x59).toInt) + (1)) (i_add rfl (by decide : (1 : Int32).toInt = 1) (by omega) (by omega)) (fun x6146 e6147 => ?_)
                                                              refine hv_iast (k := 1) (aX12_exec 583 rfl) (c142 hS) (s142 hS) (h_in (by decide : (1 : Int32).toInt = 1) (by omega) (by omega)) (by decide) (fun FI6148 u6149 => ?_)
                                                              have rl6150 : rl_h 2 (FI6148 136) (FL1322 137) (FI6148 138) := by rw [show FI6148 136 = FI6140 136 from up_row u6149 (by decide) rfl, show FI6148 138 = FI6140 138 from up_row u6149 (by decide) rfl]; exact rl6142
                                                              have rl6151 : rl_h 32 (FI6148 130) (FL1322 131) (FI6148 134) := by rw [show FI6148 130 = FI6140 130 from up_row u6149 (by decide) rfl, show FI6148 134 = FI6140 134 from up_row u6149 (by decide) rfl]; exact rl6143
                                                              have rl6152 : rl_b (FI6148 139) (FI6148 140) (FI6148 141) := by rw [show FI6148 139 = FI6140 139 from up_row u6149 (by decide) rfl, show FI6148 140 = FI6140 140 from up_row u6149 (by decide) rfl, show FI6148 141 = FI6140 141 from up_row u6149 (by decide) rfl]; exact rl6144
                                                              have hI6153 : g_I FI6148 := gU_142 hI6145 u6149 (by have := (e6147 : (x6146).toInt = ((x59).toInt) + (1)); omega) (by have := (e6147 : (x6146).toInt = ((x59).toInt) + (1)); omega)
                                                              refine hw_sp (v := (600 : Int32)) (aX12_exec 584 rfl) (by decide) ?_
                                                              refine xw_lload (aX12_exec 585 rfl) rfl ?_
                                                              refine xw_l2i (aX12_exec 586 rfl) ?_
                                                              refine hw_tie (A := (x1339).toInt) (l_2i rfl (by omega) (by omega)) (fun x6154 e6155 => ?_)
                                                              refine xw_imul (aX12_exec 587 rfl) ?_
                                                              refine hw_tie (A := (600) * ((x1339).toInt)) (i_mul (by decide : (600 : Int32).toInt = 600) e6155 (by omega) (by omega)) (fun x6156 e6157 => ?_)
                                                              refine xw_istore (L2 := [(6, .int (x6156)), (0, .ref (base + 121)), (1, .int ((1 : Int32))), (2, .int (a2)), (3, .int (a3)), (4, .int ((1 : Int32))), (7, .int (y7)), (9, .int (x1274)), (10, .int (x1295)), (11, .int (x1337)), (12, .long (x1339))]) (aX12_exec 588 rfl) (by decide) rfl ?_
                                                              refine xw_iload (aX12_exec 589 rfl) rfl ?_
                                                              refine hw_aloadn (aX12_exec 590 rfl) rfl ?_
                                                              refine hw_get (v := .ref (base + 125)) (aX12_exec 591 rfl) wf_RX12_20 (c121 hS) (s121 hS) (by decide) (congrArg (fun r => va_rf (h_rf base r)) (r121_4 hF)) ?_
                                                              refine xw_lload (aX12_exec 592 rfl) rfl ?_
                                                              refine xw_l2i (aX12_exec 593 rfl) ?_
                                                              refine hw_tie (A := (x1339).toInt) (l_2i rfl (by omega) (by omega)) (fun x6158 e6159 => ?_)
                                                              obtain ⟨x6160, h6161⟩ : ∃ y, FI6148 125 (x6158).toNatClampNeg = y := ⟨_, rfl⟩
                                                              have h6161l := congrArg Int32.toInt h6161
                                                              have := i_rng x6160
                                                              refine hw_iald (v := x6160) (aX12_exec 594 rfl) (c125 hS) (s125 hS) (h_in e6159 (by omega) (by omega)) (show FI6148 125 (x6158).toNatClampNeg = x6160 from h6161) ?_
                                                              have b6162 := gI_125 hI6153 (i_lt (x := x6158) e6159 (by omega) (by omega)); rw [h6161] at b6162
                                                              refine xw_iadd (aX12_exec 595 rfl) ?_
                                                              refine hw_tie (A := ((600) * ((x1339).toInt)) + ((x6160).toInt)) (i_add e6157 rfl (by omega) (by omega)) (fun x6163 e6164 => ?_)
                                                              refine xw_istore (L2 := [(7, .int (x6163)), (6, .int (x6156)), (0, .ref (base + 121)), (1, .int ((1 : Int32))), (2, .int (a2)), (3, .int (a3)), (4, .int ((1 : Int32))), (9, .int (x1274)), (10, .int (x1295)), (11, .int (x1337)), (12, .long (x1339))]) (aX12_exec 596 rfl) (by decide) rfl ?_
                                                              refine xw_iload (aX12_exec 597 rfl) rfl ?_
                                                              refine xw_istore (L2 := [(5, .int (x6156)), (7, .int (x6163)), (6, .int (x6156)), (0, .ref (base + 121)), (1, .int ((1 : Int32))), (2, .int (a2)), (3, .int (a3)), (4, .int ((1 : Int32))), (9, .int (x1274)), (10, .int (x1295)), (11, .int (x1337)), (12, .long (x1339))]) (aX12_exec 598 rfl) (by decide) rfl ?_
                                                              refine xw_goto (tgt := 18) (aX12_exec 599 rfl) (by decide) ?_
                                                              exact hw_L (ih (x6163) (x6156) (x6156) ((1 : Int32)) FI6148 FL1322 (gf_a (gf_f (gf_a (gf_a (gf_a (gf_tr ex_rf (gf_f (gf_f (gf_f fr35 u1280 (by decide)) u1290 (by decide)) u1312 (by decide)) f1329 rfl rfl rfl) u6123 (by decide)) u6128 (by decide)) u6133 (by decide)) u6141 (by decide)) u6149 (by decide)) (gf_tr ex_rf fr36 f1330 rfl rfl rfl) hI6153 (show FI6148 121 5 = x5 from (up_c u6149 (by decide) ((up_k u6141 (by decide) ((up_c u6133 (by decide) ((up_c u6128 (by decide) ((up_c u6123 (by decide) ((gf_at f1329 (c121 hS) (s121 hS) rfl ((up_k u1312 (by decide) ((up_k u1290 (by decide) ((up_k u1280 (by decide) (kp38))))))))))))))))))) (show FI6148 121 6 = x8 from (up_c u6149 (by decide) ((up_k u6141 (by decide) ((up_c u6133 (by decide) ((up_c u6128 (by decide) ((up_c u6123 (by decide) ((gf_at f1329 (c121 hS) (s121 hS) rfl ((up_k u1312 (by decide) ((up_k u1290 (by decide) ((up_k u1280 (by decide) (kp39))))))))))))))))))) (show rl_h 2 (FI6148 136) (FL1322 137) (FI6148 138) from rl6150) (show rl_h 32 (FI6148 130) (FL1322 131) (FI6148 134) from rl6151) (show rl_b (FI6148 139) (FI6148 140) (FI6148 141) from rl6152) (by have := (e6164 : (x6163).toInt = ((600) * ((x1339).toInt)) + ((x6160).toInt)); have := (e6157 : (x6156).toInt = (600) * ((x1339).toInt)); have := (e6157 : (x6156).toInt = (600) * ((x1339).toInt)); have := ((by decide : (1 : Int32).toInt = 1) : ((1 : Int32)).toInt = 1); omega) (by have := (e6164 : (x6163).toInt = ((600) * ((x1339).toInt)) + ((x6160).toInt)); have := (e6157 : (x6156).toInt = (600) * ((x1339).toInt)); have := (e6157 : (x6156).toInt = (600) * ((x1339).toInt)); have := ((by decide : (1 : Int32).toInt = 1) : ((1 : Int32)).toInt = 1); omega) (by have := (e6164 : (x6163).toInt = ((600) * ((x1339).toInt)) + ((x6160).toInt)); have := (e6157 : (x6156).toInt = (600) * ((x1339).toInt)); have := (e6157 : (x6156).toInt = (600) * ((x1339).toInt)); have := ((by decide : (1 : Int32).toInt = 1) : ((1 : Int32)).toInt = 1); omega) (by have := (e6164 : (x6163).toInt = ((600) * ((x1339).toInt)) + ((x6160).toInt)); have := (e6157 : (x6156).toInt = (600) * ((x1339).toInt)); have := (e6157 : (x6156).toInt = (600) * ((x1339).toInt)); have := ((by decide : (1 : Int32).toInt = 1) : ((1 : Int32)).toInt = 1); omega) (by have := (e6164 : (x6163).toInt = ((600) * ((x1339).toInt)) + ((x6160).toInt)); have := (e6157 : (x6156).toInt = (600) * ((x1339).toInt)); have := (e6157 : (x6156).toInt = (600) * ((x1339).toInt)); have := ((by decide : (1 : Int32).toInt = 1) : ((1 : Int32)).toInt = 1); have := congrArg Int32.toInt (show FI6148 121 29 = x6138 from (up_c u6149 (by decide) (up_eq u6141))); have := (e6139 : (x6138).toInt = ((x55).toInt) + (1)); omega) (by have := (e6164 : (x6163).toInt = ((600) * ((x1339).toInt)) + ((x6160).toInt)); have := (e6157 : (x6156).toInt = (600) * ((x1339).toInt)); have := (e6157 : (x6156).toInt = (600) * ((x1339).toInt)); have := ((by decide : (1 : Int32).toInt = 1) : ((1 : Int32)).toInt = 1); have := congrArg Int32.toInt (show FI6148 121 30 = x1277 from (up_c u6149 (by decide) ((up_k u6141 (by decide) ((up_c u6133 (by decide) ((up_c u6128 (by decide) ((up_c u6123 (by decide) ((gf_at f1329 (c121 hS) (s121 hS) rfl ((up_k u1312 (by decide) ((up_k u1290 (by decide) (up_eq u1280))))))))))))))))); have := (e1278 : (x1277).toInt = ((x57).toInt) - (1)); omega) (by have := (e6164 : (x6163).toInt = ((600) * ((x1339).toInt)) + ((x6160).toInt)); have := (e6157 : (x6156).toInt = (600) * ((x1339).toInt)); have := (e6157 : (x6156).toInt = (600) * ((x1339).toInt)); have := ((by decide : (1 : Int32).toInt = 1) : ((1 : Int32)).toInt = 1); omega) (by have := (e6164 : (x6163).toInt = ((600) * ((x1339).toInt)) + ((x6160).toInt)); have := (e6157 : (x6156).toInt = (600) * ((x1339).toInt)); have := (e6157 : (x6156).toInt = (600) * ((x1339).toInt)); have := ((by decide : (1 : Int32).toInt = 1) : ((1 : Int32)).toInt = 1); omega) (by have := (e6164 : (x6163).toInt = ((600) * ((x1339).toInt)) + ((x6160).toInt)); have := (e6157 : (x6156).toInt = (600) * ((x1339).toInt)); have := (e6157 : (x6156).toInt = (600) * ((x1339).toInt)); have := ((by decide : (1 : Int32).toInt = 1) : ((1 : Int32)).toInt = 1); omega) (by have := (e6164 : (x6163).toInt = ((600) * ((x1339).toInt)) + ((x6160).toInt)); have := (e6157 : (x6156).toInt = (600) * ((x1339).toInt)); have := (e6157 : (x6156).toInt = (600) * ((x1339).toInt)); have := ((by decide : (1 : Int32).toInt = 1) : ((1 : Int32)).toInt = 1); omega) (by have := (e6164 : (x6163).toInt = ((600) * ((x1339).toInt)) + ((x6160).toInt)); have := (e6157 : (x6156).toInt = (600) * ((x1339).toInt)); have := (e6157 : (x6156).toInt = (600) * ((x1339).toInt)); have := ((by decide : (1 : Int32).toInt = 1) : ((1 : Int32)).toInt = 1); have := congrArg Int32.toInt (show FI6148 142 1 = x6146 from up_eq u6149); have := (e6147 : (x6146).toInt = ((x59).toInt) + (1)); have := congrArg Int32.toInt (show FI6148 121 29 = x6138 from (up_c u6149 (by decide) (up_eq u6141))); have := (e6139 : (x6138).toInt = ((x55).toInt) + (1)); omega) (by have := (e6164 : (x6163).toInt = ((600) * ((x1339).toInt)) + ((x6160).toInt)); have := (e6157 : (x6156).toInt = (600) * ((x1339).toInt)); have := (e6157 : (x6156).toInt = (600) * ((x1339).toInt)); have := ((by decide : (1 : Int32).toInt = 1) : ((1 : Int32)).toInt = 1); have := congrArg Int32.toInt (show FI6148 121 29 = x6138 from (up_c u6149 (by decide) (up_eq u6141))); have := (e6139 : (x6138).toInt = ((x55).toInt) + (1)); have := congrArg Int32.toInt (show FI6148 121 30 = x1277 from (up_c u6149 (by decide) ((up_k u6141 (by decide) ((up_c u6133 (by decide) ((up_c u6128 (by decide) ((up_c u6123 (by decide) ((gf_at f1329 (c121 hS) (s121 hS) rfl ((up_k u1312 (by decide) ((up_k u1290 (by decide) (up_eq u1280))))))))))))))))); have := (e1278 : (x1277).toInt = ((x57).toInt) - (1)); omega)) ⟨rfl, rfl, rfl, rfl, rfl, rfl, rfl, rfl, trivial⟩
                                                            · omega
                                                          refine hw_iceq (tgt := 1080) (aX12_exec 536 rfl) (by decide) rfl (by decide : (152 : Int32).toInt = 152) (fun cd6165 => ?_) (fun cd6165 => ?_)
                                                          · exact hw_L (j6072 (by omega) (by show (x1295).toInt = 152 ∨ (x1295).toInt = 153; omega)) ⟨rfl, rfl, rfl, rfl, rfl, rfl, rfl, rfl, rfl, rfl, rfl, trivial⟩
                                                          · refine xw_iload (aX12_exec 537 rfl) rfl ?_
                                                            refine hw_sp (v := (153 : Int32)) (aX12_exec 538 rfl) (by decide) ?_
                                                            refine hw_icne (tgt := 1188) (aX12_exec 539 rfl) (by decide) rfl (by decide : (153 : Int32).toInt = 153) (fun cd6166 => ?_) (fun cd6166 => ?_)
                                                            · refine hw_aloadn (aX12_exec 600 rfl) rfl ?_
                                                              refine xw_iload (aX12_exec 601 rfl) rfl ?_
                                                              refine hw_callV (Bs := [.int (x1295)]) (rest := []) (aX12_exec 602 rfl) wc_RX12_330 (by decide) rfl wi_yX12_pushes wv_yX12_pushes (c121 hS) (s121 hS) rfl rfl rfl (Nat.le_of_ble_eq_true rfl) (Nat.le_of_ble_eq_true rfl) (m_pushes (d := d + 3) hS hF (x1295) ) (fun v6167 sv6168 p6169 => ?_)
                                                              obtain ⟨r6170, rfl, FI6171, FL6172, rfl, rfl, rfl, t6175, t6176, t6177⟩ := p6169
                                                              show hw sk base _ _ _ _ _ [.int (r6170)] _ _
                                                              have j6243 : ∀  (FIj6223 : Nat → Nat → Int32) (FLj6236 : Nat → Nat → Int64), (g_fr n SH [(121, 29), (121, 30), (121, 31), (121, 32), (121, 34), (121, 37), (121, 38)] [128, 129, 130, 132, 133, 134, 135, 136, 138, 139, 140, 141, 142] [] FI FIj6223) → (g_I FIj6223) → (FIj6223 121 29 = x55) → (FIj6223 121 30 = x1277) → (FIj6223 121 31 = x1287) → (FIj6223 121 33 = x1274) → (FIj6223 121 37 = x1337) → (FIj6223 121 38 = x1335) → (FIj6223 121 5 = x5) → (FIj6223 121 6 = x8) → (FIj6223 124 (y5).toNatClampNeg = x1295) → (FIj6223 142 1 = x59) → (g_fr n SH [(121, 35), (121, 36), (121, 39)] [127, 131, 137] [] FL FLj6236) → (FLj6236 121 35 = x1339) → (FLj6236 121 36 = x1341) → (rl_b (FIj6223 139) (FIj6223 140) (FIj6223 141)) → (rl_h 2 (FIj6223 136) (FLj6236 137) (FIj6223 138)) → (rl_h 32 (FIj6223 130) (FLj6236 131) (FIj6223 134)) → hw sk base (d + 4) none 181 1237 [(0, .ref (base + 121)), (1, .int ((1 : Int32))), (2, .int (a2)), (3, .int (a3)), (4, .int ((1 : Int32))), (6, .int (y6)), (7, .int (y7)), (21, .int (g5640))] [] (n, sl, SH, FIj6223, FLj6236, FR) (h_I (fun r s => ∃ FI' FL', s = (n, sl, SH, FI', FL', FR) ∧ g_I FI' ∧ g_fr n SH [(121, 29), (121, 30), (121, 31), (121, 32), (121, 34), (121, 37), (121, 38)] [128, 129, 130, 132, 133, 134, 135, 136, 138, 139, 140, 141, 142] [] FI FI' ∧ g_fr n SH [(121, 35), (121, 36), (121, 39)] [127, 131, 137] [] FL FL' ∧ (rl_h 2 (FI' 136) (FL' 137) (FI' 138)) ∧ (rl_h 32 (FI' 130) (FL' 131) (FI' 134)) ∧ (rl_b (FI' 139) (FI' 140) (FI' 141)))) := by
                                                                intro FIj6223 FLj6236 fr6224 hI6225 kp6226 kp6227 kp6228 kp6229 kp6230 kp6231 kp6232 kp6233 kp6234 kp6235 fr6237 kp6238 kp6239 rl6240 rl6241 rl6242
                                                                have := congrArg Int32.toInt kp6226
                                                                have := congrArg Int32.toInt kp6227
                                                                have := congrArg Int32.toInt kp6228
                                                                have := congrArg Int32.toInt kp6229
                                                                have := congrArg Int32.toInt kp6230
                                                                have := congrArg Int32.toInt kp6231
                                                                have := congrArg Int32.toInt kp6232
                                                                have := congrArg Int32.toInt kp6233
                                                                have := congrArg Int32.toInt kp6234
                                                                have := congrArg Int32.toInt kp6235
                                                                have := congrArg Int64.toInt kp6238
                                                                have := congrArg Int64.toInt kp6239
                                                                refine xw_iload (aX12_exec 624 rfl) rfl ?_
                                                                refine xw_istore (L2 := [(5, .int (g5640)), (0, .ref (base + 121)), (1, .int ((1 : Int32))), (2, .int (a2)), (3, .int (a3)), (4, .int ((1 : Int32))), (6, .int (y6)), (7, .int (y7)), (21, .int (g5640))]) (aX12_exec 625 rfl) (by decide) rfl ?_
                                                                refine xw_goto (tgt := 18) (aX12_exec 626 rfl) (by decide) ?_
                                                                exact hw_L (ih (y7) (y6) (g5640) ((1 : Int32)) FIj6223 FLj6236 fr6224 fr6237 hI6225 (show FIj6223 121 5 = x5 from kp6232) (show FIj6223 121 6 = x8 from kp6233) (show rl_h 2 (FIj6223 136) (FLj6236 137) (FIj6223 138) from rl6241) (show rl_h 32 (FIj6223 130) (FLj6236 131) (FIj6223 134) from rl6242) (show rl_b (FIj6223 139) (FIj6223 140) (FIj6223 141) from rl6240) (by have := ((by decide : (1 : Int32).toInt = 1) : ((1 : Int32)).toInt = 1); omega) (by have := ((by decide : (1 : Int32).toInt = 1) : ((1 : Int32)).toInt = 1); omega) (by have := ((by decide : (1 : Int32).toInt = 1) : ((1 : Int32)).toInt = 1); omega) (by have := ((by decide : (1 : Int32).toInt = 1) : ((1 : Int32)).toInt = 1); omega) (by have := ((by decide : (1 : Int32).toInt = 1) : ((1 : Int32)).toInt = 1); have := congrArg Int32.toInt (show FIj6223 121 29 = x55 from kp6226); omega) (by have := ((by decide : (1 : Int32).toInt = 1) : ((1 : Int32)).toInt = 1); have := congrArg Int32.toInt (show FIj6223 121 30 = x1277 from kp6227); have := (e1278 : (x1277).toInt = ((x57).toInt) - (1)); omega) (by have := ((by decide : (1 : Int32).toInt = 1) : ((1 : Int32)).toInt = 1); omega) (by have := ((by decide : (1 : Int32).toInt = 1) : ((1 : Int32)).toInt = 1); omega) (by have := ((by decide : (1 : Int32).toInt = 1) : ((1 : Int32)).toInt = 1); omega) (by have := ((by decide : (1 : Int32).toInt = 1) : ((1 : Int32)).toInt = 1); omega) (by have := ((by decide : (1 : Int32).toInt = 1) : ((1 : Int32)).toInt = 1); have := congrArg Int32.toInt (show FIj6223 142 1 = x59 from kp6235); have := congrArg Int32.toInt (show FIj6223 121 29 = x55 from kp6226); omega) (by have := ((by decide : (1 : Int32).toInt = 1) : ((1 : Int32)).toInt = 1); have := congrArg Int32.toInt (show FIj6223 121 29 = x55 from kp6226); have := congrArg Int32.toInt (show FIj6223 121 30 = x1277 from kp6227); have := (e1278 : (x1277).toInt = ((x57).toInt) - (1)); omega)) ⟨rfl, rfl, rfl, rfl, rfl, rfl, rfl, rfl, trivial⟩
                                                              refine hw_ifeq (tgt := 1225) (aX12_exec 603 rfl) (by decide) rfl (fun cd6244 => ?_) (fun cd6244 => ?_)
                                                              · have z7 := hid_e fc527_0
                                                                have z8 := hid_e fc560_0
                                                                have z6245 := hid_e t1328 
                                                                refine hw_aloadn (aX12_exec 618 rfl) rfl ?_
                                                                refine xw_iload (aX12_exec 619 rfl) rfl ?_
                                                                refine xw_iload (aX12_exec 620 rfl) rfl ?_
                                                                refine xw_lload (aX12_exec 621 rfl) rfl ?_
                                                                refine xw_lload (aX12_exec 622 rfl) rfl ?_
                                                                refine hw_callV (Bs := [.int ((1 : Int32)), .int (x1295), .long (x1339), .long (x1341)]) (rest := []) (aX12_exec 623 rfl) wc_RX12_336 (by decide) rfl wi_yX12_acts wv_yX12_acts (c121 hS) (s121 hS) rfl rfl rfl (Nat.le_of_ble_eq_true rfl) (Nat.le_of_ble_eq_true rfl) (m_acts (d := d) hS hF ((1 : Int32)) (x1295) (x1339) (x1341) (show hid ((x1295).toInt = 6 ∨ (x1295).toInt = 19 ∨ (x1295).toInt = 25 ∨ (x1295).toInt = 31 ∨ (x1295).toInt = 32 ∨ (x1295).toInt = 35 ∨ (x1295).toInt = 40 ∨ (x1295).toInt = 148 ∨ (x1295).toInt = 155 ∨ (x1295).toInt = 159 → 1 ≤ (FI1321 128 1).toInt) from (fun hq => by have z := hid_e t3047 hq; clear hq; have := congrArg Int32.toInt (show FI1321 128 1 = x3035 from h3036); omega)) (show hid ((26 ≤ (x1295).toInt ∧ (x1295).toInt ≤ 46 ∧ (x1295).toInt ≠ 31 ∧ (x1295).toInt ≠ 32 ∧ (x1295).toInt ≠ 35 ∧ (x1295).toInt ≠ 40) ∨ (x1295).toInt = 22 → 2 ≤ (FI1321 128 1).toInt) from (fun hq => by have z := hid_e t3048 hq; clear hq; have := congrArg Int32.toInt (show FI1321 128 1 = x3035 from h3036); omega)) (show hid ((x1295).toInt = 23 → 3 ≤ (FI1321 128 1).toInt) from (fun hq => by have z := hid_e t3049 hq; clear hq; have := congrArg Int32.toInt (show FI1321 128 1 = x3035 from h3036); omega)) (by unfold hid; omega) (by unfold hid; omega) (by unfold hid; omega) (by have := ((by decide : (1 : Int32).toInt = 1) : ((1 : Int32)).toInt = 1); have := ((by decide : (1 : Int32).toInt = 1) : ((1 : Int32)).toInt = 1); omega) (gA_128 hI1334) (fun i hi => by { have hh : i.toInt = 128 * ((1 : Int32)).toInt + (FI1321 128 1).toInt - 1 := hi; have hz : ((1 : Int32)).toInt = 1 := (by decide); have h2 := congrArg Int32.toInt (show FI1321 128 1 = x3035 from h3036); rcases Int.lt_or_le 0 (x3035).toInt with hn | hn; { show _ ∧ _ ∧ _; rw [fc667_0 i (by omega) hn]; exact ⟨hid_e fc944_0, hid_e fc944_1, hid_e fc974_0⟩ }; { show (_ → _) ∧ (_ → _) ∧ (_ → _); exact ⟨fun h => absurd (hid_e t3047 (by omega)) (by omega), fun h => absurd (hid_e t3047 (by omega)) (by omega), fun h => absurd (hid_e t3048 (by omega)) (by omega)⟩ } }) (show rl_h 2 (FI1321 136) (FL1322 137) (FI1321 138) from rl1332)) (fun v6246 sv6247 p6248 => ?_)
                                                                obtain ⟨rfl, FI6250, FL6251, rfl, f6252, f6253, ai6254, rl6255⟩ := p6248
                                                                have f6256 : g_fr n SH [] [128, 136, 138] [] FI1321 FI6250 := gf_old f6252
                                                                have f6257 : g_fr n SH [] [127, 137] [] FL1322 FL6251 := gf_old f6253
                                                                have rl6258 : rl_b (FI6250 139) (FI6250 140) (FI6250 141) := by rw [show FI6250 139 = FI1321 139 from f6252.2 139 (by decide) (by decide), show FI6250 140 = FI1321 140 from f6252.2 140 (by decide) (by decide), show FI6250 141 = FI1321 141 from f6252.2 141 (by decide) (by decide)]; exact rl1331
                                                                have rl6259 : rl_h 32 (FI6250 130) (FL6251 131) (FI6250 134) := by rw [show FI6250 130 = FI1321 130 from f6252.2 130 (by decide) (by decide), show FL6251 131 = FL1322 131 from f6253.2 131 (by decide) (by decide), show FI6250 134 = FI1321 134 from f6252.2 134 (by decide) (by decide)]; exact rl1333
                                                                have hI6260 : g_I FI6250 := g_old hI1334 f6252 g_k0 (g_kc (P := fun q => ∀ i, (g_r q i).1 ≤ (FI6250 q i).toInt ∧ (FI6250 q i).toInt ≤ (g_r q i).2) (gB_128 ai6254) (g_kc (P := fun q => ∀ i, (g_r q i).1 ≤ (FI6250 q i).toInt ∧ (FI6250 q i).toInt ≤ (g_r q i).2) (fun i => g_full rfl) (g_kc (P := fun q => ∀ i, (g_r q i).1 ≤ (FI6250 q i).toInt ∧ (FI6250 q i).toInt ≤ (g_r q i).2) (fun i => g_full rfl) g_k0)))
                                                                show hw sk base _ _ _ _ _ [] _ _
                                                                exact hw_L (j6243 FI6250 FL6251 (gf_tr ex_rf (gf_tr ex_rf (gf_f (gf_f (gf_f fr35 u1280 (by decide)) u1290 (by decide)) u1312 (by decide)) f1329 rfl rfl rfl) f6256 rfl rfl rfl) hI6260 (show FI6250 121 29 = x55 from (gf_at f6256 (c121 hS) (s121 hS) rfl ((gf_at f1329 (c121 hS) (s121 hS) rfl ((up_k u1312 (by decide) ((up_k u1290 (by decide) ((up_k u1280 (by decide) (h56))))))))))) (show FI6250 121 30 = x1277 from (gf_at f6256 (c121 hS) (s121 hS) rfl ((gf_at f1329 (c121 hS) (s121 hS) rfl ((up_k u1312 (by decide) ((up_k u1290 (by decide) (up_eq u1280))))))))) (show FI6250 121 31 = x1287 from (gf_at f6256 (c121 hS) (s121 hS) rfl ((gf_at f1329 (c121 hS) (s121 hS) rfl ((up_k u1312 (by decide) (up_eq u1290))))))) (show FI6250 121 33 = x1274 from (gf_at f6256 (c121 hS) (s121 hS) rfl ((gf_at f1329 (c121 hS) (s121 hS) rfl ((up_k u1312 (by decide) ((up_k u1290 (by decide) ((up_k u1280 (by decide) (h1275))))))))))) (show FI6250 121 37 = x1337 from (gf_at f6256 (c121 hS) (s121 hS) rfl (h1338))) (show FI6250 121 38 = x1335 from (gf_at f6256 (c121 hS) (s121 hS) rfl (h1336))) (show FI6250 121 5 = x5 from (gf_at f6256 (c121 hS) (s121 hS) rfl ((gf_at f1329 (c121 hS) (s121 hS) rfl ((up_k u1312 (by decide) ((up_k u1290 (by decide) ((up_k u1280 (by decide) (kp38))))))))))) (show FI6250 121 6 = x8 from (gf_at f6256 (c121 hS) (s121 hS) rfl ((gf_at f1329 (c121 hS) (s121 hS) rfl ((up_k u1312 (by decide) ((up_k u1290 (by decide) ((up_k u1280 (by decide) (kp39))))))))))) (show FI6250 124 (y5).toNatClampNeg = x1295 from (gf_at f6256 (c124 hS) (s124 hS) rfl ((gf_at f1329 (c124 hS) (s124 hS) rfl ((up_c u1312 (by decide) (h1296))))))) (show FI6250 142 1 = x59 from (gf_at f6256 (c142 hS) (s142 hS) rfl ((gf_at f1329 (c142 hS) (s142 hS) rfl ((up_c u1312 (by decide) ((up_c u1290 (by decide) ((up_c u1280 (by decide) (h60))))))))))) (gf_tr ex_rf (gf_tr ex_rf fr36 f1330 rfl rfl rfl) f6257 rfl rfl rfl) (show FL6251 121 35 = x1339 from (gf_at f6257 (c121 hS) (s121 hS) rfl (h1340))) (show FL6251 121 36 = x1341 from (gf_at f6257 (c121 hS) (s121 hS) rfl (h1342))) (show rl_b (FI6250 139) (FI6250 140) (FI6250 141) from rl6258) (show rl_h 2 (FI6250 136) (FL6251 137) (FI6250 138) from rl6255) (show rl_h 32 (FI6250 130) (FL6251 131) (FI6250 134) from rl6259)) ⟨rfl, rfl, rfl, rfl, rfl, rfl, rfl, rfl, trivial⟩
                                                              · have hp6261 := hid_e t6175 (by omega)
                                                                have z9 := hid_e fc1064_0 hp6261
                                                                clear hp6261
                                                                have z7 := hid_e fc527_0
                                                                have z8 := hid_e fc782_0
                                                                have z6262 := hid_e t3050 
                                                                have z6263 := hid_e t1326 
                                                                refine hw_aloadn (aX12_exec 604 rfl) rfl ?_
                                                                refine xw_iload (aX12_exec 605 rfl) rfl ?_
                                                                refine hw_aloadn (aX12_exec 606 rfl) rfl ?_
                                                                refine xw_iload (aX12_exec 607 rfl) rfl ?_
                                                                refine xw_lload (aX12_exec 608 rfl) rfl ?_
                                                                refine xw_lload (aX12_exec 609 rfl) rfl ?_
                                                                refine xw_lload (aX12_exec 610 rfl) rfl ?_
                                                                refine xw_lload (aX12_exec 611 rfl) rfl ?_
                                                                refine xw_iload (aX12_exec 612 rfl) rfl ?_
                                                                refine xw_iload (aX12_exec 613 rfl) rfl ?_
                                                                refine xw_iadd (aX12_exec 614 rfl) ?_
                                                                refine hw_tie (A := ((128) * (1)) + ((x3035).toInt)) (i_add e721 rfl (by omega) (by omega)) (fun x6264 e6265 => ?_)
                                                                refine hw_callV (Bs := [.int (x1295), .long (x1339), .long (x1341), .long (g3059), .long (g3360), .int (x6264)]) (rest := [.int ((1 : Int32)), .ref (base + 121)]) (aX12_exec 615 rfl) wc_RX12_333 (by decide) rfl wi_yX12_pushes_ wv_yX12_pushes_ (c121 hS) (s121 hS) rfl rfl rfl (Nat.le_of_ble_eq_true rfl) (Nat.le_of_ble_eq_true rfl) (m_pushes_ (d := d + 3) hS hF (x1295) (x1339) (x1341) (g3059) (g3360) (x6264) (by omega) (by have := congrArg Int32.toInt (show FI1321 121 6 = x8 from (gf_at f1329 (c121 hS) (s121 hS) rfl ((up_k u1312 (by decide) ((up_k u1290 (by decide) ((up_k u1280 (by decide) (kp39))))))))); omega) (by have := (e6265 : (x6264).toInt = ((128) * (1)) + ((x3035).toInt)); omega) (by have := (e6265 : (x6264).toInt = ((128) * (1)) + ((x3035).toInt)); have := (e6265 : (x6264).toInt = ((128) * (1)) + ((x3035).toInt)); omega) (by have := congrArg Int32.toInt (show FI1321 121 6 = x8 from (gf_at f1329 (c121 hS) (s121 hS) rfl ((up_k u1312 (by decide) ((up_k u1290 (by decide) ((up_k u1280 (by decide) (kp39))))))))); have := congrArg Int32.toInt (show FI1321 121 6 = x8 from (gf_at f1329 (c121 hS) (s121 hS) rfl ((up_k u1312 (by decide) ((up_k u1290 (by decide) ((up_k u1280 (by decide) (kp39))))))))); omega)) (fun v6266 sv6267 p6268 => ?_)
                                                                obtain ⟨r6269, rfl, FI6270, FL6271, rfl, rfl, rfl⟩ := p6268
                                                                have rg_r6269 := l_rng r6269
                                                                show hw sk base _ _ _ _ _ [.long (r6269), .int ((1 : Int32)), .ref (base + 121)] _ _
                                                                refine hw_callV (Bs := [.int ((1 : Int32)), .long (r6269)]) (rest := []) (aX12_exec 616 rfl) wc_RX12_292 (by decide) rfl wi_yX12_pushed wv_yX12_pushed (c121 hS) (s121 hS) rfl rfl rfl (Nat.le_of_ble_eq_true rfl) (Nat.le_of_ble_eq_true rfl) (m_pushed (d := d + 3) hS hF ((1 : Int32)) (r6269) (show (FI1321 128 1).toInt ≤ 127 from (by have := congrArg Int32.toInt (show FI1321 128 1 = x3035 from h3036); show (FI1321 128 1).toInt ≤ 127; omega)) (by have := ((by decide : (1 : Int32).toInt = 1) : ((1 : Int32)).toInt = 1); have := ((by decide : (1 : Int32).toInt = 1) : ((1 : Int32)).toInt = 1); omega) (gA_128 hI1334)) (fun v6274 sv6275 p6276 => ?_)
                                                                obtain ⟨rfl, FI6278, FL6279, rfl, f6280, f6281, ai6282⟩ := p6276
                                                                have f6283 : g_fr n SH [(121, 32)] [128] [] FI1321 FI6278 := gf_old f6280
                                                                have f6284 : g_fr n SH [] [127] [] FL1322 FL6279 := gf_old f6281
                                                                have rl6285 : rl_b (FI6278 139) (FI6278 140) (FI6278 141) := by rw [show FI6278 139 = FI1321 139 from f6280.2 139 (by decide) (by decide), show FI6278 140 = FI1321 140 from f6280.2 140 (by decide) (by decide), show FI6278 141 = FI1321 141 from f6280.2 141 (by decide) (by decide)]; exact rl1331
                                                                have rl6286 : rl_h 2 (FI6278 136) (FL6279 137) (FI6278 138) := by rw [show FI6278 136 = FI1321 136 from f6280.2 136 (by decide) (by decide), show FL6279 137 = FL1322 137 from f6281.2 137 (by decide) (by decide), show FI6278 138 = FI1321 138 from f6280.2 138 (by decide) (by decide)]; exact rl1332
                                                                have rl6287 : rl_h 32 (FI6278 130) (FL6279 131) (FI6278 134) := by rw [show FI6278 130 = FI1321 130 from f6280.2 130 (by decide) (by decide), show FL6279 131 = FL1322 131 from f6281.2 131 (by decide) (by decide), show FI6278 134 = FI1321 134 from f6280.2 134 (by decide) (by decide)]; exact rl1333
                                                                have hI6288 : g_I FI6278 := g_old hI1334 f6280 (g_kc (P := fun k => (g_r 121 k).1 ≤ (FI6278 121 k).toInt ∧ (FI6278 121 k).toInt ≤ (g_r 121 k).2) (g_full rfl) g_k0) (g_kc (P := fun q => ∀ i, (g_r q i).1 ≤ (FI6278 q i).toInt ∧ (FI6278 q i).toInt ≤ (g_r q i).2) (gB_128 ai6282) g_k0)
                                                                show hw sk base _ _ _ _ _ [] _ _
                                                                refine xw_goto (tgt := 1237) (aX12_exec 617 rfl) (by decide) ?_
                                                                exact hw_L (j6243 FI6278 FL6279 (gf_tr ex_rf (gf_tr ex_rf (gf_f (gf_f (gf_f fr35 u1280 (by decide)) u1290 (by decide)) u1312 (by decide)) f1329 rfl rfl rfl) f6283 rfl rfl rfl) hI6288 (show FI6278 121 29 = x55 from (gf_at f6283 (c121 hS) (s121 hS) rfl ((gf_at f1329 (c121 hS) (s121 hS) rfl ((up_k u1312 (by decide) ((up_k u1290 (by decide) ((up_k u1280 (by decide) (h56))))))))))) (show FI6278 121 30 = x1277 from (gf_at f6283 (c121 hS) (s121 hS) rfl ((gf_at f1329 (c121 hS) (s121 hS) rfl ((up_k u1312 (by decide) ((up_k u1290 (by decide) (up_eq u1280))))))))) (show FI6278 121 31 = x1287 from (gf_at f6283 (c121 hS) (s121 hS) rfl ((gf_at f1329 (c121 hS) (s121 hS) rfl ((up_k u1312 (by decide) (up_eq u1290))))))) (show FI6278 121 33 = x1274 from (gf_at f6283 (c121 hS) (s121 hS) rfl ((gf_at f1329 (c121 hS) (s121 hS) rfl ((up_k u1312 (by decide) ((up_k u1290 (by decide) ((up_k u1280 (by decide) (h1275))))))))))) (show FI6278 121 37 = x1337 from (gf_at f6283 (c121 hS) (s121 hS) rfl (h1338))) (show FI6278 121 38 = x1335 from (gf_at f6283 (c121 hS) (s121 hS) rfl (h1336))) (show FI6278 121 5 = x5 from (gf_at f6283 (c121 hS) (s121 hS) rfl ((gf_at f1329 (c121 hS) (s121 hS) rfl ((up_k u1312 (by decide) ((up_k u1290 (by decide) ((up_k u1280 (by decide) (kp38))))))))))) (show FI6278 121 6 = x8 from (gf_at f6283 (c121 hS) (s121 hS) rfl ((gf_at f1329 (c121 hS) (s121 hS) rfl ((up_k u1312 (by decide) ((up_k u1290 (by decide) ((up_k u1280 (by decide) (kp39))))))))))) (show FI6278 124 (y5).toNatClampNeg = x1295 from (gf_at f6283 (c124 hS) (s124 hS) rfl ((gf_at f1329 (c124 hS) (s124 hS) rfl ((up_c u1312 (by decide) (h1296))))))) (show FI6278 142 1 = x59 from (gf_at f6283 (c142 hS) (s142 hS) rfl ((gf_at f1329 (c142 hS) (s142 hS) rfl ((up_c u1312 (by decide) ((up_c u1290 (by decide) ((up_c u1280 (by decide) (h60))))))))))) (gf_tr ex_rf (gf_tr ex_rf fr36 f1330 rfl rfl rfl) f6284 rfl rfl rfl) (show FL6279 121 35 = x1339 from (gf_at f6284 (c121 hS) (s121 hS) rfl (h1340))) (show FL6279 121 36 = x1341 from (gf_at f6284 (c121 hS) (s121 hS) rfl (h1342))) (show rl_b (FI6278 139) (FI6278 140) (FI6278 141) from rl6285) (show rl_h 2 (FI6278 136) (FL6279 137) (FI6278 138) from rl6286) (show rl_h 32 (FI6278 130) (FL6279 131) (FI6278 134) from rl6287)) ⟨rfl, rfl, rfl, rfl, rfl, rfl, rfl, rfl, trivial⟩
                                                            · exact hw_L (j6072 (by omega) (by show (x1295).toInt = 152 ∨ (x1295).toInt = 153; omega)) ⟨rfl, rfl, rfl, rfl, rfl, rfl, rfl, rfl, rfl, rfl, rfl, trivial⟩
                                                        refine hw_ifeq (tgt := 1064) (aX12_exec 525 rfl) (by decide) rfl (fun cd6289 => ?_) (fun cd6289 => ?_)
                                                        · exact hw_L (j5946 (show hid (((x1295).toInt = 3 ∨ (8 ≤ (x1295).toInt ∧ (x1295).toInt ≤ 18) ∨ (x1295).toInt = 20 ∨ (x1295).toInt = 21 ∨ (48 ≤ (x1295).toInt ∧ (x1295).toInt ≤ 79) ∨ (112 ≤ (x1295).toInt ∧ (x1295).toInt ≤ 143) ∨ (x1295).toInt = 146 ∨ (x1295).toInt = 151 ∨ (x1295).toInt = 156) → (x3035).toInt ≠ 128) from (fun h => absurd (hid_e t5803 h) (by omega)))) ⟨rfl, rfl, rfl, rfl, rfl, rfl, rfl, rfl, rfl, rfl, rfl, rfl, rfl, rfl, rfl, rfl, rfl, trivial⟩
                                                        · refine xw_iload (aX12_exec 526 rfl) rfl ?_
                                                          refine hw_sp (v := (128 : Int32)) (aX12_exec 527 rfl) (by decide) ?_
                                                          refine hw_icne (tgt := 1064) (aX12_exec 528 rfl) (by decide) rfl (by decide : (128 : Int32).toInt = 128) (fun cd6290 => ?_) (fun cd6290 => ?_)
                                                          · exact hw_L (j5946 (show hid (((x1295).toInt = 3 ∨ (8 ≤ (x1295).toInt ∧ (x1295).toInt ≤ 18) ∨ (x1295).toInt = 20 ∨ (x1295).toInt = 21 ∨ (48 ≤ (x1295).toInt ∧ (x1295).toInt ≤ 79) ∨ (112 ≤ (x1295).toInt ∧ (x1295).toInt ≤ 143) ∨ (x1295).toInt = 146 ∨ (x1295).toInt = 151 ∨ (x1295).toInt = 156) → (x3035).toInt ≠ 128) from (fun _ => by omega))) ⟨rfl, rfl, rfl, rfl, rfl, rfl, rfl, rfl, rfl, rfl, rfl, rfl, rfl, rfl, rfl, rfl, rfl, trivial⟩
                                                          · refine hw_aloadn (aX12_exec 529 rfl) rfl ?_
                                                            refine hw_ic (v := (4 : Int32)) (aX12_exec 530 rfl) (by decide) ?_
                                                            refine xw_iload (aX12_exec 531 rfl) rfl ?_
                                                            refine hw_callV (Bs := [.int ((4 : Int32)), .int (x1274)]) (rest := []) (aX12_exec 532 rfl) wc_RX12_270 (by decide) rfl wi_yX12_fails wv_yX12_fails (c121 hS) (s121 hS) rfl rfl rfl (Nat.le_of_ble_eq_true rfl) (Nat.le_of_ble_eq_true rfl) (m_fails (d := d + 3) hS hF ((4 : Int32)) (x1274) ) (fun v6291 sv6292 p6293 => ?_)
                                                            have := ((by decide : (4 : Int32).toInt = 4) : ((4 : Int32)).toInt = 4)
                                                            obtain ⟨r6294, rfl, FI6295, FL6296, rfl, f6297, rfl, t6299⟩ := p6293
                                                            have f6300 : g_fr n SH [(121, 34)] [] [] FI1321 FI6295 := gf_old f6297
                                                            have rl6301 : rl_b (FI6295 139) (FI6295 140) (FI6295 141) := by rw [show FI6295 139 = FI1321 139 from f6297.2 139 (by decide) (by decide), show FI6295 140 = FI1321 140 from f6297.2 140 (by decide) (by decide), show FI6295 141 = FI1321 141 from f6297.2 141 (by decide) (by decide)]; exact rl1331
                                                            have rl6302 : rl_h 2 (FI6295 136) (FL1322 137) (FI6295 138) := by rw [show FI6295 136 = FI1321 136 from f6297.2 136 (by decide) (by decide), show FI6295 138 = FI1321 138 from f6297.2 138 (by decide) (by decide)]; exact rl1332
                                                            have rl6303 : rl_h 32 (FI6295 130) (FL1322 131) (FI6295 134) := by rw [show FI6295 130 = FI1321 130 from f6297.2 130 (by decide) (by decide), show FI6295 134 = FI1321 134 from f6297.2 134 (by decide) (by decide)]; exact rl1333
                                                            have hI6304 : g_I FI6295 := g_old hI1334 f6297 (g_kc (P := fun k => (g_r 121 k).1 ≤ (FI6295 121 k).toInt ∧ (FI6295 121 k).toInt ≤ (g_r 121 k).2) (g_full rfl) g_k0) g_k0
                                                            have rg_r6294 := i_rng r6294
                                                            show hw sk base _ _ _ _ _ [.int (r6294)] _ _
                                                            refine xw_iret (aX12_exec 533 rfl) rfl rfl ?_
                                                            exact ⟨r6294, rfl, FI6295, FL1322, rfl, hI6304, (gf_tr ex_rf (gf_tr ex_rf (gf_f (gf_f (gf_f fr35 u1280 (by decide)) u1290 (by decide)) u1312 (by decide)) f1329 rfl rfl rfl) f6300 rfl rfl rfl), (gf_tr ex_rf fr36 f1330 rfl rfl rfl), (show rl_h 2 (FI6295 136) (FL1322 137) (FI6295 138) from rl6302), (show rl_h 32 (FI6295 130) (FL1322 131) (FI6295 134) from rl6303), (show rl_b (FI6295 139) (FI6295 140) (FI6295 141) from rl6301)⟩
                                                      have j6305 : (40 ≤ (x1295).toInt ∧ (x1295).toInt ≤ 47) → hw sk base (d + 4) none 181 999 [(0, .ref (base + 121)), (1, .int ((1 : Int32))), (2, .int (a2)), (3, .int (a3)), (4, .int ((1 : Int32))), (6, .int (y6)), (7, .int (y7)), (8, .int (x720)), (9, .int (x1274)), (10, .int (x1295)), (11, .int (x1337)), (12, .long (x1339)), (14, .long (x1341)), (16, .int (x3035)), (17, .long (g3059)), (19, .long (g3360))] [] (n, sl, SH, FI1321, FL1322, FR) (h_I (fun r s => ∃ FI' FL', s = (n, sl, SH, FI', FL', FR) ∧ g_I FI' ∧ g_fr n SH [(121, 29), (121, 30), (121, 31), (121, 32), (121, 34), (121, 37), (121, 38)] [128, 129, 130, 132, 133, 134, 135, 136, 138, 139, 140, 141, 142] [] FI FI' ∧ g_fr n SH [(121, 35), (121, 36), (121, 39)] [127, 131, 137] [] FL FL' ∧ (rl_h 2 (FI' 136) (FL' 137) (FI' 138)) ∧ (rl_h 32 (FI' 130) (FL' 131) (FI' 134)) ∧ (rl_b (FI' 139) (FI' 140) (FI' 141)))) := by
                                                        intro q6306
                                                        refine xw_iload (aX12_exec 499 rfl) rfl ?_
                                                        refine xw_i2l (aX12_exec 500 rfl) ?_
                                                        refine hw_tle (A := (x1337).toInt) (i_2l rfl) (fun x6307 e6308 => ?_)
                                                        refine xw_lload (aX12_exec 501 rfl) rfl ?_
                                                        refine xw_ladd (aX12_exec 502 rfl) ?_
                                                        refine hw_tl (fun x6309 => ?_)
                                                        have b6310 := l_rng x6309
                                                        refine xw_lstore (L2 := [(22, .long (x6309)), (0, .ref (base + 121)), (1, .int ((1 : Int32))), (2, .int (a2)), (3, .int (a3)), (4, .int ((1 : Int32))), (6, .int (y6)), (7, .int (y7)), (8, .int (x720)), (9, .int (x1274)), (10, .int (x1295)), (11, .int (x1337)), (12, .long (x1339)), (14, .long (x1341)), (16, .int (x3035)), (17, .long (g3059)), (19, .long (g3360))]) (aX12_exec 503 rfl) (by decide) rfl ?_
                                                        refine xw_lload (aX12_exec 504 rfl) rfl ?_
                                                        refine xw_iload (aX12_exec 505 rfl) rfl ?_
                                                        refine xw_i2l (aX12_exec 506 rfl) ?_
                                                        refine hw_tle (A := (y6).toInt) (i_2l rfl) (fun x6311 e6312 => ?_)
                                                        have j6333 : hw sk base (d + 4) none 181 1025 [(0, .ref (base + 121)), (9, .int (x1274))] [] (n, sl, SH, FI1321, FL1322, FR) (h_I (fun r s => ∃ FI' FL', s = (n, sl, SH, FI', FL', FR) ∧ g_I FI' ∧ g_fr n SH [(121, 29), (121, 30), (121, 31), (121, 32), (121, 34), (121, 37), (121, 38)] [128, 129, 130, 132, 133, 134, 135, 136, 138, 139, 140, 141, 142] [] FI FI' ∧ g_fr n SH [(121, 35), (121, 36), (121, 39)] [127, 131, 137] [] FL FL' ∧ (rl_h 2 (FI' 136) (FL' 137) (FI' 138)) ∧ (rl_h 32 (FI' 130) (FL' 131) (FI' 134)) ∧ (rl_b (FI' 139) (FI' 140) (FI' 141)))) := by
                                                          refine hw_aloadn (aX12_exec 514 rfl) rfl ?_
                                                          refine hw_bp (v := (7 : Int32)) (aX12_exec 515 rfl) (by decide) ?_
                                                          refine xw_iload (aX12_exec 516 rfl) rfl ?_
                                                          refine hw_callV (Bs := [.int ((7 : Int32)), .int (x1274)]) (rest := []) (aX12_exec 517 rfl) wc_RX12_270 (by decide) rfl wi_yX12_fails wv_yX12_fails (c121 hS) (s121 hS) rfl rfl rfl (Nat.le_of_ble_eq_true rfl) (Nat.le_of_ble_eq_true rfl) (m_fails (d := d + 3) hS hF ((7 : Int32)) (x1274) ) (fun v6334 sv6335 p6336 => ?_)
                                                          have := ((by decide : (7 : Int32).toInt = 7) : ((7 : Int32)).toInt = 7)
                                                          obtain ⟨r6337, rfl, FI6338, FL6339, rfl, f6340, rfl, t6342⟩ := p6336
                                                          have f6343 : g_fr n SH [(121, 34)] [] [] FI1321 FI6338 := gf_old f6340
                                                          have rl6344 : rl_b (FI6338 139) (FI6338 140) (FI6338 141) := by rw [show FI6338 139 = FI1321 139 from f6340.2 139 (by decide) (by decide), show FI6338 140 = FI1321 140 from f6340.2 140 (by decide) (by decide), show FI6338 141 = FI1321 141 from f6340.2 141 (by decide) (by decide)]; exact rl1331
                                                          have rl6345 : rl_h 2 (FI6338 136) (FL1322 137) (FI6338 138) := by rw [show FI6338 136 = FI1321 136 from f6340.2 136 (by decide) (by decide), show FI6338 138 = FI1321 138 from f6340.2 138 (by decide) (by decide)]; exact rl1332
                                                          have rl6346 : rl_h 32 (FI6338 130) (FL1322 131) (FI6338 134) := by rw [show FI6338 130 = FI1321 130 from f6340.2 130 (by decide) (by decide), show FI6338 134 = FI1321 134 from f6340.2 134 (by decide) (by decide)]; exact rl1333
                                                          have hI6347 : g_I FI6338 := g_old hI1334 f6340 (g_kc (P := fun k => (g_r 121 k).1 ≤ (FI6338 121 k).toInt ∧ (FI6338 121 k).toInt ≤ (g_r 121 k).2) (g_full rfl) g_k0) g_k0
                                                          have rg_r6337 := i_rng r6337
                                                          show hw sk base _ _ _ _ _ [.int (r6337)] _ _
                                                          refine xw_iret (aX12_exec 518 rfl) rfl rfl ?_
                                                          exact ⟨r6337, rfl, FI6338, FL1322, rfl, hI6347, (gf_tr ex_rf (gf_tr ex_rf (gf_f (gf_f (gf_f fr35 u1280 (by decide)) u1290 (by decide)) u1312 (by decide)) f1329 rfl rfl rfl) f6343 rfl rfl rfl), (gf_tr ex_rf fr36 f1330 rfl rfl rfl), (show rl_h 2 (FI6338 136) (FL1322 137) (FI6338 138) from rl6345), (show rl_h 32 (FI6338 130) (FL1322 131) (FI6338 134) from rl6346), (show rl_b (FI6338 139) (FI6338 140) (FI6338 141) from rl6344)⟩
                                                        refine hw_lclt (tgt := 1025) (aX12_exec 507 rfl) (aX12_exec 508 rfl) (by decide) rfl e6312 (fun cd6348 => ?_) (fun cd6348 => ?_)
                                                        · exact hw_L (j6333) ⟨rfl, rfl, trivial⟩
                                                        · refine xw_lload (aX12_exec 509 rfl) rfl ?_
                                                          refine xw_iload (aX12_exec 510 rfl) rfl ?_
                                                          refine xw_i2l (aX12_exec 511 rfl) ?_
                                                          refine hw_tle (A := (y7).toInt) (i_2l rfl) (fun x6349 e6350 => ?_)
                                                          refine hw_lcle (tgt := 1034) (aX12_exec 512 rfl) (aX12_exec 513 rfl) (by decide) rfl e6350 (fun cd6351 => ?_) (fun cd6351 => ?_)
                                                          · refine xw_lload (aX12_exec 519 rfl) rfl ?_
                                                            refine xw_l2i (aX12_exec 520 rfl) ?_
                                                            refine hw_tie (A := (x6309).toInt) (l_2i rfl (by omega) (by omega)) (fun x6352 e6353 => ?_)
                                                            refine xw_istore (L2 := [(21, .int (x6352)), (22, .long (x6309)), (0, .ref (base + 121)), (1, .int ((1 : Int32))), (2, .int (a2)), (3, .int (a3)), (4, .int ((1 : Int32))), (6, .int (y6)), (7, .int (y7)), (8, .int (x720)), (9, .int (x1274)), (10, .int (x1295)), (11, .int (x1337)), (12, .long (x1339)), (14, .long (x1341)), (16, .int (x3035)), (17, .long (g3059)), (19, .long (g3360))]) (aX12_exec 521 rfl) (by decide) rfl ?_
                                                            exact hw_L (j5793 (x6352) (by have := (e6353 : (x6352).toInt = (x6309).toInt); have := (e6353 : (x6352).toInt = (x6309).toInt); show (y6).toInt ≤ (x6352).toInt ∧ (x6352).toInt ≤ (y7).toInt; omega)) ⟨rfl, rfl, rfl, rfl, rfl, rfl, rfl, rfl, rfl, rfl, rfl, rfl, rfl, rfl, rfl, rfl, rfl, trivial⟩
                                                          · exact hw_L (j6333) ⟨rfl, rfl, trivial⟩
                                                      refine hw_iceq (tgt := 999) (aX12_exec 491 rfl) (by decide) rfl (by decide : (47 : Int32).toInt = 47) (fun cd6354 => ?_) (fun cd6354 => ?_)
                                                      · exact hw_L (j6305 (by omega)) ⟨rfl, rfl, rfl, rfl, rfl, rfl, rfl, rfl, rfl, rfl, rfl, rfl, rfl, rfl, rfl, rfl, trivial⟩
                                                      · refine xw_iload (aX12_exec 492 rfl) rfl ?_
                                                        refine hw_bp (v := (40 : Int32)) (aX12_exec 493 rfl) (by decide) ?_
                                                        refine hw_icne (tgt := 1039) (aX12_exec 494 rfl) (by decide) rfl (by decide : (40 : Int32).toInt = 40) (fun cd6355 => ?_) (fun cd6355 => ?_)
                                                        · exact hw_L (j5793 (x1337) (by show (y6).toInt ≤ (x1337).toInt ∧ (x1337).toInt ≤ (y7).toInt; omega)) ⟨rfl, rfl, rfl, rfl, rfl, rfl, rfl, rfl, rfl, rfl, rfl, rfl, rfl, rfl, rfl, rfl, rfl, trivial⟩
                                                        · refine xw_lload (aX12_exec 495 rfl) rfl ?_
                                                          refine hw_lc (v := (0 : Int64)) (aX12_exec 496 rfl) (by decide) ?_
                                                          refine hw_lceq (tgt := 1039) (aX12_exec 497 rfl) (aX12_exec 498 rfl) (by decide) rfl (by decide : (0 : Int64).toInt = 0) (fun cd6356 => ?_) (fun cd6356 => ?_)
                                                          · exact hw_L (j5793 (x1337) (by show (y6).toInt ≤ (x1337).toInt ∧ (x1337).toInt ≤ (y7).toInt; omega)) ⟨rfl, rfl, rfl, rfl, rfl, rfl, rfl, rfl, rfl, rfl, rfl, rfl, rfl, rfl, rfl, rfl, rfl, trivial⟩
                                                          · exact hw_L (j6305 (by omega)) ⟨rfl, rfl, rfl, rfl, rfl, rfl, rfl, rfl, rfl, rfl, rfl, rfl, rfl, rfl, rfl, rfl, trivial⟩
                                                    have j6357 : (27 ≤ (x1295).toInt ∧ (x1295).toInt ≤ 29) → hw sk base (d + 4) none 181 958 [(0, .ref (base + 121)), (1, .int ((1 : Int32))), (2, .int (a2)), (3, .int (a3)), (4, .int ((1 : Int32))), (6, .int (y6)), (7, .int (y7)), (8, .int (x720)), (9, .int (x1274)), (10, .int (x1295)), (11, .int (x1337)), (12, .long (x1339)), (14, .long (x1341)), (16, .int (x3035)), (17, .long (g3059)), (19, .long (g3360))] [] (n, sl, SH, FI1321, FL1322, FR) (h_I (fun r s => ∃ FI' FL', s = (n, sl, SH, FI', FL', FR) ∧ g_I FI' ∧ g_fr n SH [(121, 29), (121, 30), (121, 31), (121, 32), (121, 34), (121, 37), (121, 38)] [128, 129, 130, 132, 133, 134, 135, 136, 138, 139, 140, 141, 142] [] FI FI' ∧ g_fr n SH [(121, 35), (121, 36), (121, 39)] [127, 131, 137] [] FL FL' ∧ (rl_h 2 (FI' 136) (FL' 137) (FI' 138)) ∧ (rl_h 32 (FI' 130) (FL' 131) (FI' 134)) ∧ (rl_b (FI' 139) (FI' 140) (FI' 141)))) := by
                                                      intro q6358
                                                      refine xw_lload (aX12_exec 478 rfl) rfl ?_
                                                      refine hw_lc (v := (0 : Int64)) (aX12_exec 479 rfl) (by decide) ?_
                                                      refine hw_lcne (tgt := 974) (aX12_exec 480 rfl) (aX12_exec 481 rfl) (by decide) rfl (by decide : (0 : Int64).toInt = 0) (fun cd6359 => ?_) (fun cd6359 => ?_)
                                                      · exact hw_L (j5610 (by unfold hid; show (((x1295).toInt = 27 ∨ (x1295).toInt = 29) → (g3059).toInt ≠ 0); omega)) ⟨rfl, rfl, rfl, rfl, rfl, rfl, rfl, rfl, rfl, rfl, rfl, rfl, rfl, rfl, rfl, rfl, trivial⟩
                                                      · refine hw_aloadn (aX12_exec 482 rfl) rfl ?_
                                                        refine hw_bp (v := (6 : Int32)) (aX12_exec 483 rfl) (by decide) ?_
                                                        refine xw_iload (aX12_exec 484 rfl) rfl ?_
                                                        refine hw_callV (Bs := [.int ((6 : Int32)), .int (x1274)]) (rest := []) (aX12_exec 485 rfl) wc_RX12_270 (by decide) rfl wi_yX12_fails wv_yX12_fails (c121 hS) (s121 hS) rfl rfl rfl (Nat.le_of_ble_eq_true rfl) (Nat.le_of_ble_eq_true rfl) (m_fails (d := d + 3) hS hF ((6 : Int32)) (x1274) ) (fun v6360 sv6361 p6362 => ?_)
                                                        have := ((by decide : (6 : Int32).toInt = 6) : ((6 : Int32)).toInt = 6)
                                                        obtain ⟨r6363, rfl, FI6364, FL6365, rfl, f6366, rfl, t6368⟩ := p6362
                                                        have f6369 : g_fr n SH [(121, 34)] [] [] FI1321 FI6364 := gf_old f6366
                                                        have rl6370 : rl_b (FI6364 139) (FI6364 140) (FI6364 141) := by rw [show FI6364 139 = FI1321 139 from f6366.2 139 (by decide) (by decide), show FI6364 140 = FI1321 140 from f6366.2 140 (by decide) (by decide), show FI6364 141 = FI1321 141 from f6366.2 141 (by decide) (by decide)]; exact rl1331
                                                        have rl6371 : rl_h 2 (FI6364 136) (FL1322 137) (FI6364 138) := by rw [show FI6364 136 = FI1321 136 from f6366.2 136 (by decide) (by decide), show FI6364 138 = FI1321 138 from f6366.2 138 (by decide) (by decide)]; exact rl1332
                                                        have rl6372 : rl_h 32 (FI6364 130) (FL1322 131) (FI6364 134) := by rw [show FI6364 130 = FI1321 130 from f6366.2 130 (by decide) (by decide), show FI6364 134 = FI1321 134 from f6366.2 134 (by decide) (by decide)]; exact rl1333
                                                        have hI6373 : g_I FI6364 := g_old hI1334 f6366 (g_kc (P := fun k => (g_r 121 k).1 ≤ (FI6364 121 k).toInt ∧ (FI6364 121 k).toInt ≤ (g_r 121 k).2) (g_full rfl) g_k0) g_k0
                                                        have rg_r6363 := i_rng r6363
                                                        show hw sk base _ _ _ _ _ [.int (r6363)] _ _
                                                        refine xw_iret (aX12_exec 486 rfl) rfl rfl ?_
                                                        exact ⟨r6363, rfl, FI6364, FL1322, rfl, hI6373, (gf_tr ex_rf (gf_tr ex_rf (gf_f (gf_f (gf_f fr35 u1280 (by decide)) u1290 (by decide)) u1312 (by decide)) f1329 rfl rfl rfl) f6369 rfl rfl rfl), (gf_tr ex_rf fr36 f1330 rfl rfl rfl), (show rl_h 2 (FI6364 136) (FL1322 137) (FI6364 138) from rl6371), (show rl_h 32 (FI6364 130) (FL1322 131) (FI6364 134) from rl6372), (show rl_b (FI6364 139) (FI6364 140) (FI6364 141) from rl6370)⟩
                                                    refine hw_iceq (tgt := 958) (aX12_exec 474 rfl) (by decide) rfl (by decide : (27 : Int32).toInt = 27) (fun cd6374 => ?_) (fun cd6374 => ?_)
                                                    · exact hw_L (j6357 (by omega)) ⟨rfl, rfl, rfl, rfl, rfl, rfl, rfl, rfl, rfl, rfl, rfl, rfl, rfl, rfl, rfl, rfl, trivial⟩
                                                    · refine xw_iload (aX12_exec 475 rfl) rfl ?_
                                                      refine hw_bp (v := (29 : Int32)) (aX12_exec 476 rfl) (by decide) ?_
                                                      refine hw_icne (tgt := 974) (aX12_exec 477 rfl) (by decide) rfl (by decide : (29 : Int32).toInt = 29) (fun cd6375 => ?_) (fun cd6375 => ?_)
                                                      · exact hw_L (j5610 (by unfold hid; show (((x1295).toInt = 27 ∨ (x1295).toInt = 29) → (g3059).toInt ≠ 0); omega)) ⟨rfl, rfl, rfl, rfl, rfl, rfl, rfl, rfl, rfl, rfl, rfl, rfl, rfl, rfl, rfl, rfl, trivial⟩
                                                      · exact hw_L (j6357 (by omega)) ⟨rfl, rfl, rfl, rfl, rfl, rfl, rfl, rfl, rfl, rfl, rfl, rfl, rfl, rfl, rfl, rfl, trivial⟩
                                                  refine hw_icne (tgt := 944) (aX12_exec 461 rfl) (by decide) rfl (by decide : (148 : Int32).toInt = 148) (fun cd6376 => ?_) (fun cd6376 => ?_)
                                                  · exact hw_L (j5410 (show hid ((x1295).toInt = 6 → (0 ≤ (g3059).toInt ∧ (g3059).toInt ≤ 4088)) from fc917_0) (by unfold hid; show ((x1295).toInt = 148 → (0 ≤ (g3059).toInt ∧ (g3059).toInt ≤ 4096 - (x1339).toInt)); omega)) ⟨rfl, rfl, rfl, rfl, rfl, rfl, rfl, rfl, rfl, rfl, rfl, rfl, rfl, rfl, rfl, rfl, trivial⟩
                                                  · have zz := hid_e fc560_0 (by omega)
                                                    refine hw_aloadn (aX12_exec 462 rfl) rfl ?_
                                                    refine xw_lload (aX12_exec 463 rfl) rfl ?_
                                                    refine xw_lload (aX12_exec 464 rfl) rfl ?_
                                                    refine hw_callV (Bs := [.long (g3059), .long (x1339)]) (rest := []) (aX12_exec 465 rfl) wc_RX12_327 (by decide) rfl wi_yX12_isThere wv_yX12_isThere (c121 hS) (s121 hS) rfl rfl rfl (Nat.le_of_ble_eq_true rfl) (Nat.le_of_ble_eq_true rfl) (m_isThere (d := d + 3) hS hF (g3059) (x1339) (by omega)) (fun v6377 sv6378 p6379 => ?_)
                                                    obtain ⟨r6380, rfl, FI6381, FL6382, rfl, rfl, rfl, t6385, t6386⟩ := p6379
                                                    show hw sk base _ _ _ _ _ [.int (r6380)] _ _
                                                    refine hw_ifne (tgt := 944) (aX12_exec 466 rfl) (by decide) rfl (fun cd6387 => ?_) (fun cd6387 => ?_)
                                                    · replace t6385 := t6385 (by omega)
                                                      exact hw_L (j5410 (show hid ((x1295).toInt = 6 → (0 ≤ (g3059).toInt ∧ (g3059).toInt ≤ 4088)) from fc917_0) (by unfold hid; show ((x1295).toInt = 148 → (0 ≤ (g3059).toInt ∧ (g3059).toInt ≤ 4096 - (x1339).toInt)); omega)) ⟨rfl, rfl, rfl, rfl, rfl, rfl, rfl, rfl, rfl, rfl, rfl, rfl, rfl, rfl, rfl, rfl, trivial⟩
                                                    · clear t6385
                                                      exact hw_L (j5183) ⟨rfl, rfl, trivial⟩
                                                refine hw_icne (tgt := 917) (aX12_exec 453 rfl) (by decide) rfl (by decide : (6 : Int32).toInt = 6) (fun cd6388 => ?_) (fun cd6388 => ?_)
                                                · exact hw_L (j5198 (by unfold hid; show ((x1295).toInt = 6 → (0 ≤ (g3059).toInt ∧ (g3059).toInt ≤ 4088)); omega)) ⟨rfl, rfl, rfl, rfl, rfl, rfl, rfl, rfl, rfl, rfl, rfl, rfl, rfl, rfl, rfl, rfl, trivial⟩
                                                · refine hw_aloadn (aX12_exec 454 rfl) rfl ?_
                                                  refine xw_lload (aX12_exec 455 rfl) rfl ?_
                                                  refine xw_ldc2 (aX12_exec 456 rfl) wk_RX12_315 ?_
                                                  refine hw_callV (Bs := [.long (g3059), .long ((8 : Int64))]) (rest := []) (aX12_exec 457 rfl) wc_RX12_327 (by decide) rfl wi_yX12_isThere wv_yX12_isThere (c121 hS) (s121 hS) rfl rfl rfl (Nat.le_of_ble_eq_true rfl) (Nat.le_of_ble_eq_true rfl) (m_isThere (d := d + 3) hS hF (g3059) ((8 : Int64)) (by have := ((by decide : (8 : Int64).toInt = 8) : ((8 : Int64)).toInt = 8); have := ((by decide : (8 : Int64).toInt = 8) : ((8 : Int64)).toInt = 8); omega)) (fun v6389 sv6390 p6391 => ?_)
                                                  have := ((by decide : (8 : Int64).toInt = 8) : ((8 : Int64)).toInt = 8)
                                                  obtain ⟨r6392, rfl, FI6393, FL6394, rfl, rfl, rfl, t6397, t6398⟩ := p6391
                                                  show hw sk base _ _ _ _ _ [.int (r6392)] _ _
                                                  refine hw_ifeq (tgt := 936) (aX12_exec 458 rfl) (by decide) rfl (fun cd6399 => ?_) (fun cd6399 => ?_)
                                                  · clear t6397
                                                    exact hw_L (j5183) ⟨rfl, rfl, trivial⟩
                                                  · replace t6397 := t6397 (by omega)
                                                    exact hw_L (j5198 (by unfold hid; show ((x1295).toInt = 6 → (0 ≤ (g3059).toInt ∧ (g3059).toInt ≤ 4088)); omega)) ⟨rfl, rfl, rfl, rfl, rfl, rfl, rfl, rfl, rfl, rfl, rfl, rfl, rfl, rfl, rfl, rfl, trivial⟩
                                              · omega
                                            · refine xw_iload (aX12_exec 396 rfl) rfl ?_
                                              refine hw_ic (v := (1 : Int32)) (aX12_exec 397 rfl) (by decide) ?_
                                              refine hw_iceq (tgt := 804) (aX12_exec 398 rfl) (by decide) (by decide : (1 : Int32).toInt = 1) (by decide : (1 : Int32).toInt = 1) (fun cd6400 => ?_) (fun cd6400 => ?_)
                                              · exact hw_L (j4197) ⟨rfl, rfl, trivial⟩
                                              · omega
                                          refine hw_icne (tgt := 782) (aX12_exec 388 rfl) (by decide) rfl (by decide : (156 : Int32).toInt = 156) (fun cd6401 => ?_) (fun cd6401 => ?_)
                                          · exact hw_L (j4703 (by unfold hid; show ((x1295).toInt = 156 → (x8).toInt ≠ -1); omega)) ⟨rfl, rfl, rfl, rfl, rfl, rfl, rfl, rfl, rfl, rfl, rfl, rfl, rfl, rfl, rfl, rfl, trivial⟩
                                          · refine hw_aloadn (aX12_exec 389 rfl) rfl ?_
                                            refine hw_get (v := .int (x8)) (aX12_exec 390 rfl) wf_RX12_27 (c121 hS) (s121 hS) (by decide) (congrArg Value.int (show FI1321 121 6 = x8 from (gf_at f1329 (c121 hS) (s121 hS) rfl ((up_k u1312 (by decide) ((up_k u1290 (by decide) ((up_k u1280 (by decide) (kp39)))))))))) ?_
                                            refine hw_ic (v := ((-1) : Int32)) (aX12_exec 391 rfl) (by decide) ?_
                                            refine hw_iceq (tgt := 804) (aX12_exec 392 rfl) (by decide) rfl (by decide : ((-1) : Int32).toInt = (-1)) (fun cd6402 => ?_) (fun cd6402 => ?_)
                                            · exact hw_L (j4197) ⟨rfl, rfl, trivial⟩
                                            · exact hw_L (j4703 (by unfold hid; show ((x1295).toInt = 156 → (x8).toInt ≠ -1); omega)) ⟨rfl, rfl, rfl, rfl, rfl, rfl, rfl, rfl, rfl, rfl, rfl, rfl, rfl, rfl, rfl, rfl, trivial⟩
                                        refine hw_icne (tgt := 766) (aX12_exec 382 rfl) (by decide) rfl (by decide : (155 : Int32).toInt = 155) (fun cd6403 => ?_) (fun cd6403 => ?_)
                                        · exact hw_L (j4460) ⟨rfl, rfl, rfl, rfl, rfl, rfl, rfl, rfl, rfl, rfl, rfl, rfl, rfl, rfl, rfl, rfl, trivial⟩
                                        · refine hw_aloadn (aX12_exec 383 rfl) rfl ?_
                                          obtain ⟨x6404, h6405⟩ : ∃ y, FI1321 121 11 = y := ⟨_, rfl⟩
                                          have h6405l := congrArg Int32.toInt h6405
                                          have b6406 := gI_121_11 hI1334; rw [h6405] at b6406
                                          refine hw_get (v := .int (x6404)) (aX12_exec 384 rfl) wf_RX12_215 (c121 hS) (s121 hS) (by decide) (congrArg Value.int (show FI1321 121 11 = x6404 from h6405)) ?_
                                          refine hw_ifeq (tgt := 804) (aX12_exec 385 rfl) (by decide) rfl (fun cd6407 => ?_) (fun cd6407 => ?_)
                                          · exact hw_L (j4197) ⟨rfl, rfl, trivial⟩
                                          · exact hw_L (j4460) ⟨rfl, rfl, rfl, rfl, rfl, rfl, rfl, rfl, rfl, rfl, rfl, rfl, rfl, rfl, rfl, rfl, trivial⟩
                                      refine hw_icne (tgt := 751) (aX12_exec 376 rfl) (by decide) rfl (by decide : (151 : Int32).toInt = 151) (fun cd6408 => ?_) (fun cd6408 => ?_)
                                      · exact hw_L (j4212) ⟨rfl, rfl, rfl, rfl, rfl, rfl, rfl, rfl, rfl, rfl, rfl, rfl, rfl, rfl, rfl, rfl, trivial⟩
                                      · refine hw_aloadn (aX12_exec 377 rfl) rfl ?_
                                        obtain ⟨x6409, h6410⟩ : ∃ y, FI1321 121 10 = y := ⟨_, rfl⟩
                                        have h6410l := congrArg Int32.toInt h6410
                                        have b6411 := gI_121_10 hI1334; rw [h6410] at b6411
                                        refine hw_get (v := .int (x6409)) (aX12_exec 378 rfl) wf_RX12_208 (c121 hS) (s121 hS) (by decide) (congrArg Value.int (show FI1321 121 10 = x6409 from h6410)) ?_
                                        refine hw_ifeq (tgt := 804) (aX12_exec 379 rfl) (by decide) rfl (fun cd6412 => ?_) (fun cd6412 => ?_)
                                        · exact hw_L (j4197) ⟨rfl, rfl, trivial⟩
                                        · exact hw_L (j4212) ⟨rfl, rfl, rfl, rfl, rfl, rfl, rfl, rfl, rfl, rfl, rfl, rfl, rfl, rfl, rfl, rfl, trivial⟩
                                    have j6413 : (152 ≤ (x1295).toInt ∧ (x1295).toInt ≤ 153) → hw sk base (d + 4) none 181 709 [(0, .ref (base + 121)), (1, .int ((1 : Int32))), (2, .int (a2)), (3, .int (a3)), (4, .int ((1 : Int32))), (6, .int (y6)), (7, .int (y7)), (8, .int (x720)), (9, .int (x1274)), (10, .int (x1295)), (11, .int (x1337)), (12, .long (x1339)), (14, .long (x1341)), (16, .int (x3035)), (17, .long (g3059)), (19, .long (g3360))] [] (n, sl, SH, FI1321, FL1322, FR) (h_I (fun r s => ∃ FI' FL', s = (n, sl, SH, FI', FL', FR) ∧ g_I FI' ∧ g_fr n SH [(121, 29), (121, 30), (121, 31), (121, 32), (121, 34), (121, 37), (121, 38)] [128, 129, 130, 132, 133, 134, 135, 136, 138, 139, 140, 141, 142] [] FI FI' ∧ g_fr n SH [(121, 35), (121, 36), (121, 39)] [127, 131, 137] [] FL FL' ∧ (rl_h 2 (FI' 136) (FL' 137) (FI' 138)) ∧ (rl_h 32 (FI' 130) (FL' 131) (FI' 134)) ∧ (rl_b (FI' 139) (FI' 140) (FI' 141)))) := by
                                      intro q6414
                                      refine xw_lload (aX12_exec 361 rfl) rfl ?_
                                      refine xw_ldc2 (aX12_exec 362 rfl) wk_RX12_325 ?_
                                      have j6431 : hw sk base (d + 4) none 181 727 [(0, .ref (base + 121)), (9, .int (x1274))] [] (n, sl, SH, FI1321, FL1322, FR) (h_I (fun r s => ∃ FI' FL', s = (n, sl, SH, FI', FL', FR) ∧ g_I FI' ∧ g_fr n SH [(121, 29), (121, 30), (121, 31), (121, 32), (121, 34), (121, 37), (121, 38)] [128, 129, 130, 132, 133, 134, 135, 136, 138, 139, 140, 141, 142] [] FI FI' ∧ g_fr n SH [(121, 35), (121, 36), (121, 39)] [127, 131, 137] [] FL FL' ∧ (rl_h 2 (FI' 136) (FL' 137) (FI' 138)) ∧ (rl_h 32 (FI' 130) (FL' 131) (FI' 134)) ∧ (rl_b (FI' 139) (FI' 140) (FI' 141)))) := by
                                        refine hw_aloadn (aX12_exec 369 rfl) rfl ?_
                                        refine hw_bp (v := (8 : Int32)) (aX12_exec 370 rfl) (by decide) ?_
                                        refine xw_iload (aX12_exec 371 rfl) rfl ?_
                                        refine hw_callV (Bs := [.int ((8 : Int32)), .int (x1274)]) (rest := []) (aX12_exec 372 rfl) wc_RX12_270 (by decide) rfl wi_yX12_fails wv_yX12_fails (c121 hS) (s121 hS) rfl rfl rfl (Nat.le_of_ble_eq_true rfl) (Nat.le_of_ble_eq_true rfl) (m_fails (d := d + 3) hS hF ((8 : Int32)) (x1274) ) (fun v6432 sv6433 p6434 => ?_)
                                        have := ((by decide : (8 : Int32).toInt = 8) : ((8 : Int32)).toInt = 8)
                                        obtain ⟨r6435, rfl, FI6436, FL6437, rfl, f6438, rfl, t6440⟩ := p6434
                                        have f6441 : g_fr n SH [(121, 34)] [] [] FI1321 FI6436 := gf_old f6438
                                        have rl6442 : rl_b (FI6436 139) (FI6436 140) (FI6436 141) := by rw [show FI6436 139 = FI1321 139 from f6438.2 139 (by decide) (by decide), show FI6436 140 = FI1321 140 from f6438.2 140 (by decide) (by decide), show FI6436 141 = FI1321 141 from f6438.2 141 (by decide) (by decide)]; exact rl1331
                                        have rl6443 : rl_h 2 (FI6436 136) (FL1322 137) (FI6436 138) := by rw [show FI6436 136 = FI1321 136 from f6438.2 136 (by decide) (by decide), show FI6436 138 = FI1321 138 from f6438.2 138 (by decide) (by decide)]; exact rl1332
                                        have rl6444 : rl_h 32 (FI6436 130) (FL1322 131) (FI6436 134) := by rw [show FI6436 130 = FI1321 130 from f6438.2 130 (by decide) (by decide), show FI6436 134 = FI1321 134 from f6438.2 134 (by decide) (by decide)]; exact rl1333
                                        have hI6445 : g_I FI6436 := g_old hI1334 f6438 (g_kc (P := fun k => (g_r 121 k).1 ≤ (FI6436 121 k).toInt ∧ (FI6436 121 k).toInt ≤ (g_r 121 k).2) (g_full rfl) g_k0) g_k0
                                        have rg_r6435 := i_rng r6435
                                        show hw sk base _ _ _ _ _ [.int (r6435)] _ _
                                        refine xw_iret (aX12_exec 373 rfl) rfl rfl ?_
                                        exact ⟨r6435, rfl, FI6436, FL1322, rfl, hI6445, (gf_tr ex_rf (gf_tr ex_rf (gf_f (gf_f (gf_f fr35 u1280 (by decide)) u1290 (by decide)) u1312 (by decide)) f1329 rfl rfl rfl) f6441 rfl rfl rfl), (gf_tr ex_rf fr36 f1330 rfl rfl rfl), (show rl_h 2 (FI6436 136) (FL1322 137) (FI6436 138) from rl6443), (show rl_h 32 (FI6436 130) (FL1322 131) (FI6436 134) from rl6444), (show rl_b (FI6436 139) (FI6436 140) (FI6436 141) from rl6442)⟩
                                      refine hw_lcgt (tgt := 727) (aX12_exec 363 rfl) (aX12_exec 364 rfl) (by decide) rfl (by decide : (15 : Int64).toInt = 15) (fun cd6446 => ?_) (fun cd6446 => ?_)
                                      · exact hw_L (j6431) ⟨rfl, rfl, trivial⟩
                                      · refine hw_aloadn (aX12_exec 365 rfl) rfl ?_
                                        refine hw_get (v := .int (x55)) (aX12_exec 366 rfl) wf_RX12_264 (c121 hS) (s121 hS) (by decide) (congrArg Value.int (show FI1321 121 29 = x55 from (gf_at f1329 (c121 hS) (s121 hS) rfl ((up_k u1312 (by decide) ((up_k u1290 (by decide) ((up_k u1280 (by decide) (h56)))))))))) ?_
                                        refine hw_bp (v := (8 : Int32)) (aX12_exec 367 rfl) (by decide) ?_
                                        refine hw_icne (tgt := 736) (aX12_exec 368 rfl) (by decide) rfl (by decide : (8 : Int32).toInt = 8) (fun cd6447 => ?_) (fun cd6447 => ?_)
                                        · exact hw_L (j3930 (by unfold hid; show (((x1295).toInt = 152 ∨ (x1295).toInt = 153) → ((x1339).toInt ≤ 15 ∧ (x55).toInt ≠ 8)); omega)) ⟨rfl, rfl, rfl, rfl, rfl, rfl, rfl, rfl, rfl, rfl, rfl, rfl, rfl, rfl, rfl, rfl, trivial⟩
                                        · exact hw_L (j6431) ⟨rfl, rfl, trivial⟩
                                    refine hw_iceq (tgt := 709) (aX12_exec 357 rfl) (by decide) rfl (by decide : (152 : Int32).toInt = 152) (fun cd6448 => ?_) (fun cd6448 => ?_)
                                    · exact hw_L (j6413 (by omega)) ⟨rfl, rfl, rfl, rfl, rfl, rfl, rfl, rfl, rfl, rfl, rfl, rfl, rfl, rfl, rfl, rfl, trivial⟩
                                    · refine xw_iload (aX12_exec 358 rfl) rfl ?_
                                      refine hw_sp (v := (153 : Int32)) (aX12_exec 359 rfl) (by decide) ?_
                                      refine hw_icne (tgt := 736) (aX12_exec 360 rfl) (by decide) rfl (by decide : (153 : Int32).toInt = 153) (fun cd6449 => ?_) (fun cd6449 => ?_)
                                      · exact hw_L (j3930 (by unfold hid; show (((x1295).toInt = 152 ∨ (x1295).toInt = 153) → ((x1339).toInt ≤ 15 ∧ (x55).toInt ≠ 8)); omega)) ⟨rfl, rfl, rfl, rfl, rfl, rfl, rfl, rfl, rfl, rfl, rfl, rfl, rfl, rfl, rfl, rfl, trivial⟩
                                      · exact hw_L (j6413 (by omega)) ⟨rfl, rfl, rfl, rfl, rfl, rfl, rfl, rfl, rfl, rfl, rfl, rfl, rfl, rfl, rfl, rfl, trivial⟩
                                  refine hw_icle (tgt := 690) (aX12_exec 343 rfl) (by decide) rfl (by decide : (1 : Int32).toInt = 1) (fun cd6450 => ?_) (fun cd6450 => ?_)
                                  · refine hw_lc (v := (0 : Int64)) (aX12_exec 353 rfl) (by decide) ?_
                                    exact hw_L (j3645 ((0 : Int64))) ⟨rfl, rfl, rfl, rfl, rfl, rfl, rfl, rfl, rfl, rfl, rfl, rfl, rfl, rfl, rfl, trivial⟩
                                  · refine hw_aloadn (aX12_exec 344 rfl) rfl ?_
                                    refine hw_get (v := .ref (base + 127)) (aX12_exec 345 rfl) wf_RX12_33 (c121 hS) (s121 hS) (by decide) (congrArg (fun r => va_rf (h_rf base r)) (r121_14 hF)) ?_
                                    refine xw_iload (aX12_exec 346 rfl) rfl ?_
                                    refine xw_iload (aX12_exec 347 rfl) rfl ?_
                                    refine xw_iadd (aX12_exec 348 rfl) ?_
                                    refine hw_tie (A := ((128) * (1)) + ((x3035).toInt)) (i_add e721 rfl (by omega) (by omega)) (fun x6451 e6452 => ?_)
                                    refine hw_ic (v := (2 : Int32)) (aX12_exec 349 rfl) (by decide) ?_
                                    refine xw_isub (aX12_exec 350 rfl) ?_
                                    refine hw_tie (A := (((128) * (1)) + ((x3035).toInt)) - (2)) (i_sub e6452 (by decide : (2 : Int32).toInt = 2) (by omega) (by omega)) (fun x6453 e6454 => ?_)
                                    obtain ⟨x6455, h6456⟩ : ∃ y, FL1322 127 (x6453).toNatClampNeg = y := ⟨_, rfl⟩
                                    have h6456l := congrArg Int64.toInt h6456
                                    have := l_rng x6455
                                    refine hw_lald (v := x6455) (aX12_exec 351 rfl) (c127 hS) (s127 hS) (h_in e6454 (by omega) (by omega)) (show FL1322 127 (x6453).toNatClampNeg = x6455 from h6456) ?_
                                    refine xw_goto (tgt := 691) (aX12_exec 352 rfl) (by decide) ?_
                                    exact hw_L (j3645 (x6455)) ⟨rfl, rfl, rfl, rfl, rfl, rfl, rfl, rfl, rfl, rfl, rfl, rfl, rfl, rfl, rfl, trivial⟩
                                refine hw_ifle (tgt := 666) (aX12_exec 329 rfl) (by decide) rfl (fun cd6457 => ?_) (fun cd6457 => ?_)
                                · refine hw_lc (v := (0 : Int64)) (aX12_exec 339 rfl) (by decide) ?_
                                  exact hw_L (j3352 ((0 : Int64)) (show ∀ i : Int32, i.toInt = (x720).toInt + (x3035).toInt - 1 → 0 < (x3035).toInt → FL1322 127 i.toNatClampNeg = ((0 : Int64)) from (fun i hi hn => absurd hn (by omega)))) ⟨rfl, rfl, rfl, rfl, rfl, rfl, rfl, rfl, rfl, rfl, rfl, rfl, rfl, rfl, trivial⟩
                                · refine hw_aloadn (aX12_exec 330 rfl) rfl ?_
                                  refine hw_get (v := .ref (base + 127)) (aX12_exec 331 rfl) wf_RX12_33 (c121 hS) (s121 hS) (by decide) (congrArg (fun r => va_rf (h_rf base r)) (r121_14 hF)) ?_
                                  refine xw_iload (aX12_exec 332 rfl) rfl ?_
                                  refine xw_iload (aX12_exec 333 rfl) rfl ?_
                                  refine xw_iadd (aX12_exec 334 rfl) ?_
                                  refine hw_tie (A := ((128) * (1)) + ((x3035).toInt)) (i_add e721 rfl (by omega) (by omega)) (fun x6458 e6459 => ?_)
                                  refine hw_ic (v := (1 : Int32)) (aX12_exec 335 rfl) (by decide) ?_
                                  refine xw_isub (aX12_exec 336 rfl) ?_
                                  refine hw_tie (A := (((128) * (1)) + ((x3035).toInt)) - (1)) (i_sub e6459 (by decide : (1 : Int32).toInt = 1) (by omega) (by omega)) (fun x6460 e6461 => ?_)
                                  obtain ⟨x6462, h6463⟩ : ∃ y, FL1322 127 (x6460).toNatClampNeg = y := ⟨_, rfl⟩
                                  have h6463l := congrArg Int64.toInt h6463
                                  have := l_rng x6462
                                  refine hw_lald (v := x6462) (aX12_exec 337 rfl) (c127 hS) (s127 hS) (h_in e6461 (by omega) (by omega)) (show FL1322 127 (x6460).toNatClampNeg = x6462 from h6463) ?_
                                  refine xw_goto (tgt := 667) (aX12_exec 338 rfl) (by decide) ?_
                                  exact hw_L (j3352 (x6462) (show ∀ i : Int32, i.toInt = (x720).toInt + (x3035).toInt - 1 → 0 < (x3035).toInt → FL1322 127 i.toNatClampNeg = (x6462) from (fun i hi hn => by rw [show i = x6460 from i_eqv (by omega)]; exact h6463))) ⟨rfl, rfl, rfl, rfl, rfl, rfl, rfl, rfl, rfl, rfl, rfl, rfl, rfl, rfl, trivial⟩
                              · refine hw_aloadn (aX12_exec 323 rfl) rfl ?_
                                refine hw_ic (v := (3 : Int32)) (aX12_exec 324 rfl) (by decide) ?_
                                refine xw_iload (aX12_exec 325 rfl) rfl ?_
                                refine hw_callV (Bs := [.int ((3 : Int32)), .int (x1274)]) (rest := []) (aX12_exec 326 rfl) wc_RX12_270 (by decide) rfl wi_yX12_fails wv_yX12_fails (c121 hS) (s121 hS) rfl rfl rfl (Nat.le_of_ble_eq_true rfl) (Nat.le_of_ble_eq_true rfl) (m_fails (d := d + 3) hS hF ((3 : Int32)) (x1274) ) (fun v6464 sv6465 p6466 => ?_)
                                have := ((by decide : (3 : Int32).toInt = 3) : ((3 : Int32)).toInt = 3)
                                obtain ⟨r6467, rfl, FI6468, FL6469, rfl, f6470, rfl, t6472⟩ := p6466
                                have f6473 : g_fr n SH [(121, 34)] [] [] FI1321 FI6468 := gf_old f6470
                                have rl6474 : rl_b (FI6468 139) (FI6468 140) (FI6468 141) := by rw [show FI6468 139 = FI1321 139 from f6470.2 139 (by decide) (by decide), show FI6468 140 = FI1321 140 from f6470.2 140 (by decide) (by decide), show FI6468 141 = FI1321 141 from f6470.2 141 (by decide) (by decide)]; exact rl1331
                                have rl6475 : rl_h 2 (FI6468 136) (FL1322 137) (FI6468 138) := by rw [show FI6468 136 = FI1321 136 from f6470.2 136 (by decide) (by decide), show FI6468 138 = FI1321 138 from f6470.2 138 (by decide) (by decide)]; exact rl1332
                                have rl6476 : rl_h 32 (FI6468 130) (FL1322 131) (FI6468 134) := by rw [show FI6468 130 = FI1321 130 from f6470.2 130 (by decide) (by decide), show FI6468 134 = FI1321 134 from f6470.2 134 (by decide) (by decide)]; exact rl1333
                                have hI6477 : g_I FI6468 := g_old hI1334 f6470 (g_kc (P := fun k => (g_r 121 k).1 ≤ (FI6468 121 k).toInt ∧ (FI6468 121 k).toInt ≤ (g_r 121 k).2) (g_full rfl) g_k0) g_k0
                                have rg_r6467 := i_rng r6467
                                show hw sk base _ _ _ _ _ [.int (r6467)] _ _
                                refine xw_iret (aX12_exec 327 rfl) rfl rfl ?_
                                exact ⟨r6467, rfl, FI6468, FL1322, rfl, hI6477, (gf_tr ex_rf (gf_tr ex_rf (gf_f (gf_f (gf_f fr35 u1280 (by decide)) u1290 (by decide)) u1312 (by decide)) f1329 rfl rfl rfl) f6473 rfl rfl rfl), (gf_tr ex_rf fr36 f1330 rfl rfl rfl), (show rl_h 2 (FI6468 136) (FL1322 137) (FI6468 138) from rl6475), (show rl_h 32 (FI6468 130) (FL1322 131) (FI6468 134) from rl6476), (show rl_b (FI6468 139) (FI6468 140) (FI6468 141) from rl6474)⟩
                            · exact hw_L (j2956 (by omega)) ⟨rfl, rfl, rfl, rfl, rfl, rfl, rfl, rfl, rfl, rfl, rfl, rfl, trivial⟩
                        refine hw_icne (tgt := 560) (aX12_exec 273 rfl) (by decide) rfl (by decide : (148 : Int32).toInt = 148) (fun cd6478 => ?_) (fun cd6478 => ?_)
                        · exact hw_L (j2585 (by unfold hid; show ((x1295).toInt = 148 → (1 ≤ (x1339).toInt ∧ (x1339).toInt ≤ 8)); omega)) ⟨rfl, rfl, rfl, rfl, rfl, rfl, rfl, rfl, rfl, rfl, rfl, rfl, rfl, trivial⟩
                        · refine xw_lload (aX12_exec 274 rfl) rfl ?_
                          refine hw_lc (v := (1 : Int64)) (aX12_exec 275 rfl) (by decide) ?_
                          have j6495 : hw sk base (d + 4) none 181 551 [(0, .ref (base + 121)), (9, .int (x1274))] [] (n, sl, SH, FI1321, FL1322, FR) (h_I (fun r s => ∃ FI' FL', s = (n, sl, SH, FI', FL', FR) ∧ g_I FI' ∧ g_fr n SH [(121, 29), (121, 30), (121, 31), (121, 32), (121, 34), (121, 37), (121, 38)] [128, 129, 130, 132, 133, 134, 135, 136, 138, 139, 140, 141, 142] [] FI FI' ∧ g_fr n SH [(121, 35), (121, 36), (121, 39)] [127, 131, 137] [] FL FL' ∧ (rl_h 2 (FI' 136) (FL' 137) (FI' 138)) ∧ (rl_h 32 (FI' 130) (FL' 131) (FI' 134)) ∧ (rl_b (FI' 139) (FI' 140) (FI' 141)))) := by
                            refine hw_aloadn (aX12_exec 282 rfl) rfl ?_
                            refine hw_bp (v := (10 : Int32)) (aX12_exec 283 rfl) (by decide) ?_
                            refine xw_iload (aX12_exec 284 rfl) rfl ?_
                            refine hw_callV (Bs := [.int ((10 : Int32)), .int (x1274)]) (rest := []) (aX12_exec 285 rfl) wc_RX12_270 (by decide) rfl wi_yX12_fails wv_yX12_fails (c121 hS) (s121 hS) rfl rfl rfl (Nat.le_of_ble_eq_true rfl) (Nat.le_of_ble_eq_true rfl) (m_fails (d := d + 3) hS hF ((10 : Int32)) (x1274) ) (fun v6496 sv6497 p6498 => ?_)
                            have := ((by decide : (10 : Int32).toInt = 10) : ((10 : Int32)).toInt = 10)
                            obtain ⟨r6499, rfl, FI6500, FL6501, rfl, f6502, rfl, t6504⟩ := p6498
                            have f6505 : g_fr n SH [(121, 34)] [] [] FI1321 FI6500 := gf_old f6502
                            have rl6506 : rl_b (FI6500 139) (FI6500 140) (FI6500 141) := by rw [show FI6500 139 = FI1321 139 from f6502.2 139 (by decide) (by decide), show FI6500 140 = FI1321 140 from f6502.2 140 (by decide) (by decide), show FI6500 141 = FI1321 141 from f6502.2 141 (by decide) (by decide)]; exact rl1331
                            have rl6507 : rl_h 2 (FI6500 136) (FL1322 137) (FI6500 138) := by rw [show FI6500 136 = FI1321 136 from f6502.2 136 (by decide) (by decide), show FI6500 138 = FI1321 138 from f6502.2 138 (by decide) (by decide)]; exact rl1332
                            have rl6508 : rl_h 32 (FI6500 130) (FL1322 131) (FI6500 134) := by rw [show FI6500 130 = FI1321 130 from f6502.2 130 (by decide) (by decide), show FI6500 134 = FI1321 134 from f6502.2 134 (by decide) (by decide)]; exact rl1333
                            have hI6509 : g_I FI6500 := g_old hI1334 f6502 (g_kc (P := fun k => (g_r 121 k).1 ≤ (FI6500 121 k).toInt ∧ (FI6500 121 k).toInt ≤ (g_r 121 k).2) (g_full rfl) g_k0) g_k0
                            have rg_r6499 := i_rng r6499
                            show hw sk base _ _ _ _ _ [.int (r6499)] _ _
                            refine xw_iret (aX12_exec 286 rfl) rfl rfl ?_
                            exact ⟨r6499, rfl, FI6500, FL1322, rfl, hI6509, (gf_tr ex_rf (gf_tr ex_rf (gf_f (gf_f (gf_f fr35 u1280 (by decide)) u1290 (by decide)) u1312 (by decide)) f1329 rfl rfl rfl) f6505 rfl rfl rfl), (gf_tr ex_rf fr36 f1330 rfl rfl rfl), (show rl_h 2 (FI6500 136) (FL1322 137) (FI6500 138) from rl6507), (show rl_h 32 (FI6500 130) (FL1322 131) (FI6500 134) from rl6508), (show rl_b (FI6500 139) (FI6500 140) (FI6500 141) from rl6506)⟩
                          refine hw_lclt (tgt := 551) (aX12_exec 276 rfl) (aX12_exec 277 rfl) (by decide) rfl (by decide : (1 : Int64).toInt = 1) (fun cd6510 => ?_) (fun cd6510 => ?_)
                          · exact hw_L (j6495) ⟨rfl, rfl, trivial⟩
                          · refine xw_lload (aX12_exec 278 rfl) rfl ?_
                            refine xw_ldc2 (aX12_exec 279 rfl) wk_RX12_315 ?_
                            refine hw_lcle (tgt := 560) (aX12_exec 280 rfl) (aX12_exec 281 rfl) (by decide) rfl (by decide : (8 : Int64).toInt = 8) (fun cd6511 => ?_) (fun cd6511 => ?_)
                            · exact hw_L (j2585 (by unfold hid; show ((x1295).toInt = 148 → (1 ≤ (x1339).toInt ∧ (x1339).toInt ≤ 8)); omega)) ⟨rfl, rfl, rfl, rfl, rfl, rfl, rfl, rfl, rfl, rfl, rfl, rfl, rfl, trivial⟩
                            · exact hw_L (j6495) ⟨rfl, rfl, trivial⟩
                      have j6512 : (144 ≤ (x1295).toInt ∧ (x1295).toInt ≤ 146) → ((x1295).toInt = 144 ∨ (x1295).toInt = 146) → hw sk base (d + 4) none 181 506 [(0, .ref (base + 121)), (1, .int ((1 : Int32))), (2, .int (a2)), (3, .int (a3)), (4, .int ((1 : Int32))), (6, .int (y6)), (7, .int (y7)), (8, .int (x720)), (9, .int (x1274)), (10, .int (x1295)), (11, .int (x1337)), (12, .long (x1339)), (14, .long (x1341))] [] (n, sl, SH, FI1321, FL1322, FR) (h_I (fun r s => ∃ FI' FL', s = (n, sl, SH, FI', FL', FR) ∧ g_I FI' ∧ g_fr n SH [(121, 29), (121, 30), (121, 31), (121, 32), (121, 34), (121, 37), (121, 38)] [128, 129, 130, 132, 133, 134, 135, 136, 138, 139, 140, 141, 142] [] FI FI' ∧ g_fr n SH [(121, 35), (121, 36), (121, 39)] [127, 131, 137] [] FL FL' ∧ (rl_h 2 (FI' 136) (FL' 137) (FI' 138)) ∧ (rl_h 32 (FI' 130) (FL' 131) (FI' 134)) ∧ (rl_b (FI' 139) (FI' 140) (FI' 141)))) := by
                        intro q6513 fc506_0
                        refine hw_aloadn (aX12_exec 261 rfl) rfl ?_
                        refine xw_lload (aX12_exec 262 rfl) rfl ?_
                        refine xw_ldc2 (aX12_exec 263 rfl) wk_RX12_310 ?_
                        refine hw_callV (Bs := [.long (x1339), .long ((31 : Int64))]) (rest := []) (aX12_exec 264 rfl) wc_RX12_312 (by decide) rfl wi_yX12_isAbove wv_yX12_isAbove (c121 hS) (s121 hS) rfl rfl rfl (Nat.le_of_ble_eq_true rfl) (Nat.le_of_ble_eq_true rfl) (m_isAbove (d := d + 3) hS hF (x1339) ((31 : Int64)) ) (fun v6514 sv6515 p6516 => ?_)
                        have := ((by decide : (31 : Int64).toInt = 31) : ((31 : Int64)).toInt = 31)
                        obtain ⟨r6517, rfl, FI6518, FL6519, rfl, rfl, rfl, t6522, t6523⟩ := p6516
                        show hw sk base _ _ _ _ _ [.int (r6517)] _ _
                        refine hw_ifeq (tgt := 527) (aX12_exec 265 rfl) (by decide) rfl (fun cd6524 => ?_) (fun cd6524 => ?_)
                        · replace t6522 := t6522 (by omega)
                          exact hw_L (j2197 (by unfold hid; show (((x1295).toInt = 144 ∨ (x1295).toInt = 146) → (0 ≤ (x1339).toInt ∧ (x1339).toInt ≤ 31)); omega)) ⟨rfl, rfl, rfl, rfl, rfl, rfl, rfl, rfl, rfl, rfl, rfl, rfl, rfl, trivial⟩
                        · clear t6522
                          refine hw_aloadn (aX12_exec 266 rfl) rfl ?_
                          refine hw_bp (v := (14 : Int32)) (aX12_exec 267 rfl) (by decide) ?_
                          refine xw_iload (aX12_exec 268 rfl) rfl ?_
                          refine hw_callV (Bs := [.int ((14 : Int32)), .int (x1274)]) (rest := []) (aX12_exec 269 rfl) wc_RX12_270 (by decide) rfl wi_yX12_fails wv_yX12_fails (c121 hS) (s121 hS) rfl rfl rfl (Nat.le_of_ble_eq_true rfl) (Nat.le_of_ble_eq_true rfl) (m_fails (d := d + 3) hS hF ((14 : Int32)) (x1274) ) (fun v6525 sv6526 p6527 => ?_)
                          have := ((by decide : (14 : Int32).toInt = 14) : ((14 : Int32)).toInt = 14)
                          obtain ⟨r6528, rfl, FI6529, FL6530, rfl, f6531, rfl, t6533⟩ := p6527
                          have f6534 : g_fr n SH [(121, 34)] [] [] FI1321 FI6529 := gf_old f6531
                          have rl6535 : rl_b (FI6529 139) (FI6529 140) (FI6529 141) := by rw [show FI6529 139 = FI1321 139 from f6531.2 139 (by decide) (by decide), show FI6529 140 = FI1321 140 from f6531.2 140 (by decide) (by decide), show FI6529 141 = FI1321 141 from f6531.2 141 (by decide) (by decide)]; exact rl1331
                          have rl6536 : rl_h 2 (FI6529 136) (FL1322 137) (FI6529 138) := by rw [show FI6529 136 = FI1321 136 from f6531.2 136 (by decide) (by decide), show FI6529 138 = FI1321 138 from f6531.2 138 (by decide) (by decide)]; exact rl1332
                          have rl6537 : rl_h 32 (FI6529 130) (FL1322 131) (FI6529 134) := by rw [show FI6529 130 = FI1321 130 from f6531.2 130 (by decide) (by decide), show FI6529 134 = FI1321 134 from f6531.2 134 (by decide) (by decide)]; exact rl1333
                          have hI6538 : g_I FI6529 := g_old hI1334 f6531 (g_kc (P := fun k => (g_r 121 k).1 ≤ (FI6529 121 k).toInt ∧ (FI6529 121 k).toInt ≤ (g_r 121 k).2) (g_full rfl) g_k0) g_k0
                          have rg_r6528 := i_rng r6528
                          show hw sk base _ _ _ _ _ [.int (r6528)] _ _
                          refine xw_iret (aX12_exec 270 rfl) rfl rfl ?_
                          exact ⟨r6528, rfl, FI6529, FL1322, rfl, hI6538, (gf_tr ex_rf (gf_tr ex_rf (gf_f (gf_f (gf_f fr35 u1280 (by decide)) u1290 (by decide)) u1312 (by decide)) f1329 rfl rfl rfl) f6534 rfl rfl rfl), (gf_tr ex_rf fr36 f1330 rfl rfl rfl), (show rl_h 2 (FI6529 136) (FL1322 137) (FI6529 138) from rl6536), (show rl_h 32 (FI6529 130) (FL1322 131) (FI6529 134) from rl6537), (show rl_b (FI6529 139) (FI6529 140) (FI6529 141) from rl6535)⟩
                      refine hw_iceq (tgt := 506) (aX12_exec 257 rfl) (by decide) rfl (by decide : (144 : Int32).toInt = 144) (fun cd6539 => ?_) (fun cd6539 => ?_)
                      · exact hw_L (j6512 (by omega) (by show (x1295).toInt = 144 ∨ (x1295).toInt = 146; omega)) ⟨rfl, rfl, rfl, rfl, rfl, rfl, rfl, rfl, rfl, rfl, rfl, rfl, rfl, trivial⟩
                      · refine xw_iload (aX12_exec 258 rfl) rfl ?_
                        refine hw_sp (v := (146 : Int32)) (aX12_exec 259 rfl) (by decide) ?_
                        refine hw_icne (tgt := 527) (aX12_exec 260 rfl) (by decide) rfl (by decide : (146 : Int32).toInt = 146) (fun cd6540 => ?_) (fun cd6540 => ?_)
                        · exact hw_L (j2197 (by unfold hid; show (((x1295).toInt = 144 ∨ (x1295).toInt = 146) → (0 ≤ (x1339).toInt ∧ (x1339).toInt ≤ 31)); omega)) ⟨rfl, rfl, rfl, rfl, rfl, rfl, rfl, rfl, rfl, rfl, rfl, rfl, rfl, trivial⟩
                        · exact hw_L (j6512 (by omega) (by show (x1295).toInt = 144 ∨ (x1295).toInt = 146; omega)) ⟨rfl, rfl, rfl, rfl, rfl, rfl, rfl, rfl, rfl, rfl, rfl, rfl, rfl, trivial⟩
                    refine hw_ifeq (tgt := 490) (aX12_exec 231 rfl) (by decide) rfl (fun cd6541 => ?_) (fun cd6541 => ?_)
                    · exact hw_L (j1782) ⟨rfl, rfl, rfl, rfl, rfl, rfl, rfl, rfl, rfl, rfl, rfl, rfl, rfl, trivial⟩
                    · refine xw_iload (aX12_exec 232 rfl) rfl ?_
                      refine hw_sp (v := (147 : Int32)) (aX12_exec 233 rfl) (by decide) ?_
                      refine hw_iceq (tgt := 490) (aX12_exec 234 rfl) (by decide) rfl (by decide : (147 : Int32).toInt = 147) (fun cd6542 => ?_) (fun cd6542 => ?_)
                      · exact hw_L (j1782) ⟨rfl, rfl, rfl, rfl, rfl, rfl, rfl, rfl, rfl, rfl, rfl, rfl, rfl, trivial⟩
                      · refine xw_iload (aX12_exec 235 rfl) rfl ?_
                        refine hw_sp (v := (157 : Int32)) (aX12_exec 236 rfl) (by decide) ?_
                        refine hw_iceq (tgt := 490) (aX12_exec 237 rfl) (by decide) rfl (by decide : (157 : Int32).toInt = 157) (fun cd6543 => ?_) (fun cd6543 => ?_)
                        · exact hw_L (j1782) ⟨rfl, rfl, rfl, rfl, rfl, rfl, rfl, rfl, rfl, rfl, rfl, rfl, rfl, trivial⟩
                        · refine xw_iload (aX12_exec 238 rfl) rfl ?_
                          refine hw_sp (v := (150 : Int32)) (aX12_exec 239 rfl) (by decide) ?_
                          refine hw_iceq (tgt := 490) (aX12_exec 240 rfl) (by decide) rfl (by decide : (150 : Int32).toInt = 150) (fun cd6544 => ?_) (fun cd6544 => ?_)
                          · exact hw_L (j1782) ⟨rfl, rfl, rfl, rfl, rfl, rfl, rfl, rfl, rfl, rfl, rfl, rfl, rfl, trivial⟩
                          · refine xw_iload (aX12_exec 241 rfl) rfl ?_
                            refine hw_bp (v := (47 : Int32)) (aX12_exec 242 rfl) (by decide) ?_
                            refine hw_iceq (tgt := 490) (aX12_exec 243 rfl) (by decide) rfl (by decide : (47 : Int32).toInt = 47) (fun cd6545 => ?_) (fun cd6545 => ?_)
                            · exact hw_L (j1782) ⟨rfl, rfl, rfl, rfl, rfl, rfl, rfl, rfl, rfl, rfl, rfl, rfl, rfl, trivial⟩
                            · refine xw_iload (aX12_exec 244 rfl) rfl ?_
                              refine hw_sp (v := (152 : Int32)) (aX12_exec 245 rfl) (by decide) ?_
                              refine hw_iceq (tgt := 490) (aX12_exec 246 rfl) (by decide) rfl (by decide : (152 : Int32).toInt = 152) (fun cd6546 => ?_) (fun cd6546 => ?_)
                              · exact hw_L (j1782) ⟨rfl, rfl, rfl, rfl, rfl, rfl, rfl, rfl, rfl, rfl, rfl, rfl, rfl, trivial⟩
                              · refine xw_iload (aX12_exec 247 rfl) rfl ?_
                                refine hw_sp (v := (153 : Int32)) (aX12_exec 248 rfl) (by decide) ?_
                                refine hw_iceq (tgt := 490) (aX12_exec 249 rfl) (by decide) rfl (by decide : (153 : Int32).toInt = 153) (fun cd6547 => ?_) (fun cd6547 => ?_)
                                · exact hw_L (j1782) ⟨rfl, rfl, rfl, rfl, rfl, rfl, rfl, rfl, rfl, rfl, rfl, rfl, rfl, trivial⟩
                                · refine hw_aloadn (aX12_exec 250 rfl) rfl ?_
                                  refine hw_bp (v := (9 : Int32)) (aX12_exec 251 rfl) (by decide) ?_
                                  refine xw_iload (aX12_exec 252 rfl) rfl ?_
                                  refine hw_callV (Bs := [.int ((9 : Int32)), .int (x1274)]) (rest := []) (aX12_exec 253 rfl) wc_RX12_270 (by decide) rfl wi_yX12_fails wv_yX12_fails (c121 hS) (s121 hS) rfl rfl rfl (Nat.le_of_ble_eq_true rfl) (Nat.le_of_ble_eq_true rfl) (m_fails (d := d + 3) hS hF ((9 : Int32)) (x1274) ) (fun v6548 sv6549 p6550 => ?_)
                                  have := ((by decide : (9 : Int32).toInt = 9) : ((9 : Int32)).toInt = 9)
                                  obtain ⟨r6551, rfl, FI6552, FL6553, rfl, f6554, rfl, t6556⟩ := p6550
                                  have f6557 : g_fr n SH [(121, 34)] [] [] FI1321 FI6552 := gf_old f6554
                                  have rl6558 : rl_b (FI6552 139) (FI6552 140) (FI6552 141) := by rw [show FI6552 139 = FI1321 139 from f6554.2 139 (by decide) (by decide), show FI6552 140 = FI1321 140 from f6554.2 140 (by decide) (by decide), show FI6552 141 = FI1321 141 from f6554.2 141 (by decide) (by decide)]; exact rl1331
                                  have rl6559 : rl_h 2 (FI6552 136) (FL1322 137) (FI6552 138) := by rw [show FI6552 136 = FI1321 136 from f6554.2 136 (by decide) (by decide), show FI6552 138 = FI1321 138 from f6554.2 138 (by decide) (by decide)]; exact rl1332
                                  have rl6560 : rl_h 32 (FI6552 130) (FL1322 131) (FI6552 134) := by rw [show FI6552 130 = FI1321 130 from f6554.2 130 (by decide) (by decide), show FI6552 134 = FI1321 134 from f6554.2 134 (by decide) (by decide)]; exact rl1333
                                  have hI6561 : g_I FI6552 := g_old hI1334 f6554 (g_kc (P := fun k => (g_r 121 k).1 ≤ (FI6552 121 k).toInt ∧ (FI6552 121 k).toInt ≤ (g_r 121 k).2) (g_full rfl) g_k0) g_k0
                                  have rg_r6551 := i_rng r6551
                                  show hw sk base _ _ _ _ _ [.int (r6551)] _ _
                                  refine xw_iret (aX12_exec 254 rfl) rfl rfl ?_
                                  exact ⟨r6551, rfl, FI6552, FL1322, rfl, hI6561, (gf_tr ex_rf (gf_tr ex_rf (gf_f (gf_f (gf_f fr35 u1280 (by decide)) u1290 (by decide)) u1312 (by decide)) f1329 rfl rfl rfl) f6557 rfl rfl rfl), (gf_tr ex_rf fr36 f1330 rfl rfl rfl), (show rl_h 2 (FI6552 136) (FL1322 137) (FI6552 138) from rl6559), (show rl_h 32 (FI6552 130) (FL1322 131) (FI6552 134) from rl6560), (show rl_b (FI6552 139) (FI6552 140) (FI6552 141) from rl6558)⟩
                  · refine hw_aloadn (aX12_exec 212 rfl) rfl ?_
                    refine hw_aloadn (aX12_exec 213 rfl) rfl ?_
                    refine hw_get (v := .int (x1335)) (aX12_exec 214 rfl) wf_RX12_220 (c121 hS) (s121 hS) (by decide) (congrArg Value.int (show FI1321 121 38 = x1335 from h1336)) ?_
                    refine xw_iload (aX12_exec 215 rfl) rfl ?_
                    refine hw_callV (Bs := [.int (x1335), .int (x1274)]) (rest := []) (aX12_exec 216 rfl) wc_RX12_270 (by decide) rfl wi_yX12_fails wv_yX12_fails (c121 hS) (s121 hS) rfl rfl rfl (Nat.le_of_ble_eq_true rfl) (Nat.le_of_ble_eq_true rfl) (m_fails (d := d + 3) hS hF (x1335) (x1274) ) (fun v6562 sv6563 p6564 => ?_)
                    obtain ⟨r6565, rfl, FI6566, FL6567, rfl, f6568, rfl, t6570⟩ := p6564
                    have f6571 : g_fr n SH [(121, 34)] [] [] FI1321 FI6566 := gf_old f6568
                    have rl6572 : rl_b (FI6566 139) (FI6566 140) (FI6566 141) := by rw [show FI6566 139 = FI1321 139 from f6568.2 139 (by decide) (by decide), show FI6566 140 = FI1321 140 from f6568.2 140 (by decide) (by decide), show FI6566 141 = FI1321 141 from f6568.2 141 (by decide) (by decide)]; exact rl1331
                    have rl6573 : rl_h 2 (FI6566 136) (FL1322 137) (FI6566 138) := by rw [show FI6566 136 = FI1321 136 from f6568.2 136 (by decide) (by decide), show FI6566 138 = FI1321 138 from f6568.2 138 (by decide) (by decide)]; exact rl1332
                    have rl6574 : rl_h 32 (FI6566 130) (FL1322 131) (FI6566 134) := by rw [show FI6566 130 = FI1321 130 from f6568.2 130 (by decide) (by decide), show FI6566 134 = FI1321 134 from f6568.2 134 (by decide) (by decide)]; exact rl1333
                    have hI6575 : g_I FI6566 := g_old hI1334 f6568 (g_kc (P := fun k => (g_r 121 k).1 ≤ (FI6566 121 k).toInt ∧ (FI6566 121 k).toInt ≤ (g_r 121 k).2) (g_full rfl) g_k0) g_k0
                    have rg_r6565 := i_rng r6565
                    show hw sk base _ _ _ _ _ [.int (r6565)] _ _
                    refine xw_iret (aX12_exec 217 rfl) rfl rfl ?_
                    exact ⟨r6565, rfl, FI6566, FL1322, rfl, hI6575, (gf_tr ex_rf (gf_tr ex_rf (gf_f (gf_f (gf_f fr35 u1280 (by decide)) u1290 (by decide)) u1312 (by decide)) f1329 rfl rfl rfl) f6571 rfl rfl rfl), (gf_tr ex_rf fr36 f1330 rfl rfl rfl), (show rl_h 2 (FI6566 136) (FL1322 137) (FI6566 138) from rl6573), (show rl_h 32 (FI6566 130) (FL1322 131) (FI6566 134) from rl6574), (show rl_b (FI6566 139) (FI6566 140) (FI6566 141) from rl6572)⟩
                · clear t1306
                  refine hw_aloadn (aX12_exec 195 rfl) rfl ?_
                  refine hw_ic (v := (2 : Int32)) (aX12_exec 196 rfl) (by decide) ?_
                  refine xw_iload (aX12_exec 197 rfl) rfl ?_
                  refine hw_callV (Bs := [.int ((2 : Int32)), .int (x1274)]) (rest := []) (aX12_exec 198 rfl) wc_RX12_270 (by decide) rfl wi_yX12_fails wv_yX12_fails (c121 hS) (s121 hS) rfl rfl rfl (Nat.le_of_ble_eq_true rfl) (Nat.le_of_ble_eq_true rfl) (m_fails (d := d + 3) hS hF ((2 : Int32)) (x1274) ) (fun v6576 sv6577 p6578 => ?_)
                  have := ((by decide : (2 : Int32).toInt = 2) : ((2 : Int32)).toInt = 2)
                  obtain ⟨r6579, rfl, FI6580, FL6581, rfl, f6582, rfl, t6584⟩ := p6578
                  have f6585 : g_fr n SH [(121, 34)] [] [] FI1289 FI6580 := gf_old f6582
                  have rl6586 : rl_b (FI6580 139) (FI6580 140) (FI6580 141) := by rw [show FI6580 139 = FI1289 139 from f6582.2 139 (by decide) (by decide), show FI6580 140 = FI1289 140 from f6582.2 140 (by decide) (by decide), show FI6580 141 = FI1289 141 from f6582.2 141 (by decide) (by decide)]; exact rl1291
                  have rl6587 : rl_h 2 (FI6580 136) (FLv34 137) (FI6580 138) := by rw [show FI6580 136 = FI1289 136 from f6582.2 136 (by decide) (by decide), show FI6580 138 = FI1289 138 from f6582.2 138 (by decide) (by decide)]; exact rl1292
                  have rl6588 : rl_h 32 (FI6580 130) (FLv34 131) (FI6580 134) := by rw [show FI6580 130 = FI1289 130 from f6582.2 130 (by decide) (by decide), show FI6580 134 = FI1289 134 from f6582.2 134 (by decide) (by decide)]; exact rl1293
                  have hI6589 : g_I FI6580 := g_old hI1294 f6582 (g_kc (P := fun k => (g_r 121 k).1 ≤ (FI6580 121 k).toInt ∧ (FI6580 121 k).toInt ≤ (g_r 121 k).2) (g_full rfl) g_k0) g_k0
                  have rg_r6579 := i_rng r6579
                  show hw sk base _ _ _ _ _ [.int (r6579)] _ _
                  refine xw_iret (aX12_exec 199 rfl) rfl rfl ?_
                  exact ⟨r6579, rfl, FI6580, FLv34, rfl, hI6589, (gf_tr ex_rf (gf_f (gf_f fr35 u1280 (by decide)) u1290 (by decide)) f6585 rfl rfl rfl), fr36, (show rl_h 2 (FI6580 136) (FLv34 137) (FI6580 138) from rl6587), (show rl_h 32 (FI6580 130) (FLv34 131) (FI6580 134) from rl6588), (show rl_b (FI6580 139) (FI6580 140) (FI6580 141) from rl6586)⟩
              · refine hw_aloadn (aX12_exec 169 rfl) rfl ?_
                refine hw_bp (v := (12 : Int32)) (aX12_exec 170 rfl) (by decide) ?_
                refine xw_iload (aX12_exec 171 rfl) rfl ?_
                refine hw_callV (Bs := [.int ((12 : Int32)), .int (x1274)]) (rest := []) (aX12_exec 172 rfl) wc_RX12_270 (by decide) rfl wi_yX12_fails wv_yX12_fails (c121 hS) (s121 hS) rfl rfl rfl (Nat.le_of_ble_eq_true rfl) (Nat.le_of_ble_eq_true rfl) (m_fails (d := d + 3) hS hF ((12 : Int32)) (x1274) ) (fun v6590 sv6591 p6592 => ?_)
                have := ((by decide : (12 : Int32).toInt = 12) : ((12 : Int32)).toInt = 12)
                obtain ⟨r6593, rfl, FI6594, FL6595, rfl, f6596, rfl, t6598⟩ := p6592
                have f6599 : g_fr n SH [(121, 34)] [] [] FIv33 FI6594 := gf_old f6596
                have rl6600 : rl_b (FI6594 139) (FI6594 140) (FI6594 141) := by rw [show FI6594 139 = FIv33 139 from f6596.2 139 (by decide) (by decide), show FI6594 140 = FIv33 140 from f6596.2 140 (by decide) (by decide), show FI6594 141 = FIv33 141 from f6596.2 141 (by decide) (by decide)]; exact rl42
                have rl6601 : rl_h 2 (FI6594 136) (FLv34 137) (FI6594 138) := by rw [show FI6594 136 = FIv33 136 from f6596.2 136 (by decide) (by decide), show FI6594 138 = FIv33 138 from f6596.2 138 (by decide) (by decide)]; exact rl40
                have rl6602 : rl_h 32 (FI6594 130) (FLv34 131) (FI6594 134) := by rw [show FI6594 130 = FIv33 130 from f6596.2 130 (by decide) (by decide), show FI6594 134 = FIv33 134 from f6596.2 134 (by decide) (by decide)]; exact rl41
                have hI6603 : g_I FI6594 := g_old hI37 f6596 (g_kc (P := fun k => (g_r 121 k).1 ≤ (FI6594 121 k).toInt ∧ (FI6594 121 k).toInt ≤ (g_r 121 k).2) (g_full rfl) g_k0) g_k0
                have rg_r6593 := i_rng r6593
                show hw sk base _ _ _ _ _ [.int (r6593)] _ _
                refine xw_iret (aX12_exec 173 rfl) rfl rfl ?_
                exact ⟨r6593, rfl, FI6594, FLv34, rfl, hI6603, (gf_tr ex_rf fr35 f6599 rfl rfl rfl), fr36, (show rl_h 2 (FI6594 136) (FLv34 137) (FI6594 138) from rl6601), (show rl_h 32 (FI6594 130) (FLv34 131) (FI6594 134) from rl6602), (show rl_b (FI6594 139) (FI6594 140) (FI6594 141) from rl6600)⟩
            · omega
          · refine hw_aloadn (aX12_exec 67 rfl) rfl ?_
            refine hw_get (v := .ref (base + 129)) (aX12_exec 68 rfl) wf_RX12_39 (c121 hS) (s121 hS) (by decide) (congrArg (fun r => va_rf (h_rf base r)) (r121_16 hF)) ?_
            refine xw_iload (aX12_exec 69 rfl) rfl ?_
            obtain ⟨x6604, h6605⟩ : ∃ y, FIv33 129 1 = y := ⟨_, rfl⟩
            have h6605l := congrArg Int32.toInt h6605
            have b6606 := gI_129 (i := 1) hI37 (by decide); rw [h6605] at b6606
            refine hw_iald (v := x6604) (aX12_exec 70 rfl) (c129 hS) (s129 hS) (h_in (by decide : (1 : Int32).toInt = 1) (by omega) (by omega)) (show FIv33 129 ((1 : Int32)).toNatClampNeg = x6604 from h6605) ?_
            have j6681 : hw sk base (d + 4) none 181 175 [(0, .ref (base + 121)), (1, .int ((1 : Int32))), (2, .int (a2)), (3, .int (a3)), (4, .int ((1 : Int32)))] [] (n, sl, SH, FIv33, FLv34, FR) (h_I (fun r s => ∃ FI' FL', s = (n, sl, SH, FI', FL', FR) ∧ g_I FI' ∧ g_fr n SH [(121, 29), (121, 30), (121, 31), (121, 32), (121, 34), (121, 37), (121, 38)] [128, 129, 130, 132, 133, 134, 135, 136, 138, 139, 140, 141, 142] [] FI FI' ∧ g_fr n SH [(121, 35), (121, 36), (121, 39)] [127, 131, 137] [] FL FL' ∧ (rl_h 2 (FI' 136) (FL' 137) (FI' 138)) ∧ (rl_h 32 (FI' 130) (FL' 131) (FI' 134)) ∧ (rl_b (FI' 139) (FI' 140) (FI' 141)))) := by
              refine xw_iload (aX12_exec 94 rfl) rfl ?_
              refine hw_ifne (tgt := 182) (aX12_exec 95 rfl) (by decide) (by decide : (1 : Int32).toInt = 1) (fun cd6682 => ?_) (fun cd6682 => ?_)
              · refine hw_aloadn (aX12_exec 98 rfl) rfl ?_
                refine hw_callV (Bs := []) (rest := []) (aX12_exec 99 rfl) wc_RX12_273 (by decide) rfl wi_yX12_isBase wv_yX12_isBase (c121 hS) (s121 hS) rfl rfl rfl (Nat.le_of_ble_eq_true rfl) (Nat.le_of_ble_eq_true rfl) (m_isBase (d := d + 3) hS hF (gA_128 hI37) (gA_129 hI37) (show rl_h 2 (FIv33 136) (FLv34 137) (FIv33 138) from rl40)) (fun v6683 sv6684 p6685 => ?_)
                obtain ⟨r6686, rfl, FI6687, FL6688, rfl, rfl, f6690, t6691⟩ := p6685
                have f6692 : g_fr n SH [(121, 39)] [] [] FLv34 FL6688 := gf_old f6690
                have rl6693 : rl_h 2 (FIv33 136) (FL6688 137) (FIv33 138) := by rw [show FL6688 137 = FLv34 137 from f6690.2 137 (by decide) (by decide)]; exact rl40
                have rl6694 : rl_h 32 (FIv33 130) (FL6688 131) (FIv33 134) := by rw [show FL6688 131 = FLv34 131 from f6690.2 131 (by decide) (by decide)]; exact rl41
                show hw sk base _ _ _ _ _ [.int (r6686)] _ _
                refine hw_ifne (tgt := 200) (aX12_exec 100 rfl) (by decide) rfl (fun cd6695 => ?_) (fun cd6695 => ?_)
                · refine xw_iloadn (aX12_exec 107 rfl) rfl ?_
                  refine hw_ic (v := (1 : Int32)) (aX12_exec 108 rfl) (by decide) ?_
                  refine hw_icne (tgt := 207) (aX12_exec 109 rfl) (by decide) (by decide : (1 : Int32).toInt = 1) (by decide : (1 : Int32).toInt = 1) (fun cd6696 => ?_) (fun cd6696 => ?_)
                  · omega
                  · refine hw_ic (v := (0 : Int32)) (aX12_exec 110 rfl) (by decide) ?_
                    refine xw_iret (aX12_exec 111 rfl) rfl rfl ?_
                    have e6697 : ((0 : Int32)).toInt = 0 := (by decide : (0 : Int32).toInt = 0)
                    exact ⟨(0 : Int32), rfl, FIv33, FL6688, rfl, hI37, fr35, (gf_tr ex_rf fr36 f6692 rfl rfl rfl), (show rl_h 2 (FIv33 136) (FL6688 137) (FIv33 138) from rl6693), (show rl_h 32 (FIv33 130) (FL6688 131) (FIv33 134) from rl6694), (show rl_b (FIv33 139) (FIv33 140) (FIv33 141) from rl42)⟩
                · refine hw_aloadn (aX12_exec 101 rfl) rfl ?_
                  refine hw_bp (v := (11 : Int32)) (aX12_exec 102 rfl) (by decide) ?_
                  refine hw_aloadn (aX12_exec 103 rfl) rfl ?_
                  obtain ⟨x6698, h6699⟩ : ∃ y, FIv33 121 33 = y := ⟨_, rfl⟩
                  have h6699l := congrArg Int32.toInt h6699
                  have := i_rng x6698
                  refine hw_get (v := .int (x6698)) (aX12_exec 104 rfl) wf_RX12_267 (c121 hS) (s121 hS) (by decide) (congrArg Value.int (show FIv33 121 33 = x6698 from h6699)) ?_
                  refine hw_callV (Bs := [.int ((11 : Int32)), .int (x6698)]) (rest := []) (aX12_exec 105 rfl) wc_RX12_270 (by decide) rfl wi_yX12_fails wv_yX12_fails (c121 hS) (s121 hS) rfl rfl rfl (Nat.le_of_ble_eq_true rfl) (Nat.le_of_ble_eq_true rfl) (m_fails (d := d + 3) hS hF ((11 : Int32)) (x6698) ) (fun v6700 sv6701 p6702 => ?_)
                  have := ((by decide : (11 : Int32).toInt = 11) : ((11 : Int32)).toInt = 11)
                  obtain ⟨r6703, rfl, FI6704, FL6705, rfl, f6706, rfl, t6708⟩ := p6702
                  have f6709 : g_fr n SH [(121, 34)] [] [] FIv33 FI6704 := gf_old f6706
                  have rl6710 : rl_b (FI6704 139) (FI6704 140) (FI6704 141) := by rw [show FI6704 139 = FIv33 139 from f6706.2 139 (by decide) (by decide), show FI6704 140 = FIv33 140 from f6706.2 140 (by decide) (by decide), show FI6704 141 = FIv33 141 from f6706.2 141 (by decide) (by decide)]; exact rl42
                  have rl6711 : rl_h 2 (FI6704 136) (FL6688 137) (FI6704 138) := by rw [show FI6704 136 = FIv33 136 from f6706.2 136 (by decide) (by decide), show FI6704 138 = FIv33 138 from f6706.2 138 (by decide) (by decide)]; exact rl6693
                  have rl6712 : rl_h 32 (FI6704 130) (FL6688 131) (FI6704 134) := by rw [show FI6704 130 = FIv33 130 from f6706.2 130 (by decide) (by decide), show FI6704 134 = FIv33 134 from f6706.2 134 (by decide) (by decide)]; exact rl6694
                  have hI6713 : g_I FI6704 := g_old hI37 f6706 (g_kc (P := fun k => (g_r 121 k).1 ≤ (FI6704 121 k).toInt ∧ (FI6704 121 k).toInt ≤ (g_r 121 k).2) (g_full rfl) g_k0) g_k0
                  have rg_r6703 := i_rng r6703
                  show hw sk base _ _ _ _ _ [.int (r6703)] _ _
                  refine xw_iret (aX12_exec 106 rfl) rfl rfl ?_
                  exact ⟨r6703, rfl, FI6704, FL6688, rfl, hI6713, (gf_tr ex_rf fr35 f6709 rfl rfl rfl), (gf_tr ex_rf fr36 f6692 rfl rfl rfl), (show rl_h 2 (FI6704 136) (FL6688 137) (FI6704 138) from rl6711), (show rl_h 32 (FI6704 130) (FL6688 131) (FI6704 134) from rl6712), (show rl_b (FI6704 139) (FI6704 140) (FI6704 141) from rl6710)⟩
              · omega
            refine hw_ifle (tgt := 175) (aX12_exec 71 rfl) (by decide) rfl (fun cd6714 => ?_) (fun cd6714 => ?_)
            · exact hw_L (j6681) ⟨rfl, rfl, rfl, rfl, rfl, trivial⟩
            · refine hw_aloadn (aX12_exec 72 rfl) rfl ?_
              refine hw_get (v := .ref (base + 136)) (aX12_exec 73 rfl) wf_RX12_60 (c121 hS) (s121 hS) (by decide) (congrArg (fun r => va_rf (h_rf base r)) (r121_23 hF)) ?_
              refine xw_iload (aX12_exec 74 rfl) rfl ?_
              obtain ⟨x6715, h6716⟩ : ∃ y, FIv33 136 1 = y := ⟨_, rfl⟩
              have h6716l := congrArg Int32.toInt h6716
              have := i_rng x6715
              refine hw_iald (v := x6715) (aX12_exec 75 rfl) (c136 hS) (s136 hS) (h_in (by decide : (1 : Int32).toInt = 1) (by omega) (by omega)) (show FIv33 136 ((1 : Int32)).toNatClampNeg = x6715 from h6716) ?_
              refine hw_ifne (tgt := 153) (aX12_exec 76 rfl) (by decide) rfl (fun cd6717 => ?_) (fun cd6717 => ?_)
              · refine hw_aloadn (aX12_exec 82 rfl) rfl ?_
                refine hw_bp (v := (13 : Int32)) (aX12_exec 83 rfl) (by decide) ?_
                refine xw_iload (aX12_exec 84 rfl) rfl ?_
                refine hw_ifne (tgt := 167) (aX12_exec 85 rfl) (by decide) (by decide : (1 : Int32).toInt = 1) (fun cd6718 => ?_) (fun cd6718 => ?_)
                · refine hw_aloadn (aX12_exec 90 rfl) rfl ?_
                  obtain ⟨x6719, h6720⟩ : ∃ y, FIv33 121 33 = y := ⟨_, rfl⟩
                  have h6720l := congrArg Int32.toInt h6720
                  have := i_rng x6719
                  refine hw_get (v := .int (x6719)) (aX12_exec 91 rfl) wf_RX12_267 (c121 hS) (s121 hS) (by decide) (congrArg Value.int (show FIv33 121 33 = x6719 from h6720)) ?_
                  refine hw_callV (Bs := [.int ((13 : Int32)), .int (x6719)]) (rest := []) (aX12_exec 92 rfl) wc_RX12_270 (by decide) rfl wi_yX12_fails wv_yX12_fails (c121 hS) (s121 hS) rfl rfl rfl (Nat.le_of_ble_eq_true rfl) (Nat.le_of_ble_eq_true rfl) (m_fails (d := d + 3) hS hF ((13 : Int32)) (x6719) ) (fun v6721 sv6722 p6723 => ?_)
                  have := ((by decide : (13 : Int32).toInt = 13) : ((13 : Int32)).toInt = 13)
                  obtain ⟨r6724, rfl, FI6725, FL6726, rfl, f6727, rfl, t6729⟩ := p6723
                  have f6730 : g_fr n SH [(121, 34)] [] [] FIv33 FI6725 := gf_old f6727
                  have rl6731 : rl_b (FI6725 139) (FI6725 140) (FI6725 141) := by rw [show FI6725 139 = FIv33 139 from f6727.2 139 (by decide) (by decide), show FI6725 140 = FIv33 140 from f6727.2 140 (by decide) (by decide), show FI6725 141 = FIv33 141 from f6727.2 141 (by decide) (by decide)]; exact rl42
                  have rl6732 : rl_h 2 (FI6725 136) (FLv34 137) (FI6725 138) := by rw [show FI6725 136 = FIv33 136 from f6727.2 136 (by decide) (by decide), show FI6725 138 = FIv33 138 from f6727.2 138 (by decide) (by decide)]; exact rl40
                  have rl6733 : rl_h 32 (FI6725 130) (FLv34 131) (FI6725 134) := by rw [show FI6725 130 = FIv33 130 from f6727.2 130 (by decide) (by decide), show FI6725 134 = FIv33 134 from f6727.2 134 (by decide) (by decide)]; exact rl41
                  have hI6734 : g_I FI6725 := g_old hI37 f6727 (g_kc (P := fun k => (g_r 121 k).1 ≤ (FI6725 121 k).toInt ∧ (FI6725 121 k).toInt ≤ (g_r 121 k).2) (g_full rfl) g_k0) g_k0
                  have rg_r6724 := i_rng r6724
                  show hw sk base _ _ _ _ _ [.int (r6724)] _ _
                  refine xw_iret (aX12_exec 93 rfl) rfl rfl ?_
                  exact ⟨r6724, rfl, FI6725, FLv34, rfl, hI6734, (gf_tr ex_rf fr35 f6730 rfl rfl rfl), fr36, (show rl_h 2 (FI6725 136) (FLv34 137) (FI6725 138) from rl6732), (show rl_h 32 (FI6725 130) (FLv34 131) (FI6725 134) from rl6733), (show rl_b (FI6725 139) (FI6725 140) (FI6725 141) from rl6731)⟩
                · omega
              · refine hw_aloadn (aX12_exec 77 rfl) rfl ?_
                refine hw_get (v := .ref (base + 128)) (aX12_exec 78 rfl) wf_RX12_36 (c121 hS) (s121 hS) (by decide) (congrArg (fun r => va_rf (h_rf base r)) (r121_15 hF)) ?_
                refine xw_iload (aX12_exec 79 rfl) rfl ?_
                obtain ⟨x6735, h6736⟩ : ∃ y, FIv33 128 1 = y := ⟨_, rfl⟩
                have h6736l := congrArg Int32.toInt h6736
                have b6737 := gI_128 (i := 1) hI37 (by decide); rw [h6736] at b6737
                refine hw_iald (v := x6735) (aX12_exec 80 rfl) (c128 hS) (s128 hS) (h_in (by decide : (1 : Int32).toInt = 1) (by omega) (by omega)) (show FIv33 128 ((1 : Int32)).toNatClampNeg = x6735 from h6736) ?_
                refine hw_ifle (tgt := 175) (aX12_exec 81 rfl) (by decide) rfl (fun cd6738 => ?_) (fun cd6738 => ?_)
                · exact hw_L (j6681) ⟨rfl, rfl, rfl, rfl, rfl, trivial⟩
                · refine hw_aloadn (aX12_exec 82 rfl) rfl ?_
                  refine hw_bp (v := (13 : Int32)) (aX12_exec 83 rfl) (by decide) ?_
                  refine xw_iload (aX12_exec 84 rfl) rfl ?_
                  refine hw_ifne (tgt := 167) (aX12_exec 85 rfl) (by decide) (by decide : (1 : Int32).toInt = 1) (fun cd6739 => ?_) (fun cd6739 => ?_)
                  · refine hw_aloadn (aX12_exec 90 rfl) rfl ?_
                    obtain ⟨x6740, h6741⟩ : ∃ y, FIv33 121 33 = y := ⟨_, rfl⟩
                    have h6741l := congrArg Int32.toInt h6741
                    have := i_rng x6740
                    refine hw_get (v := .int (x6740)) (aX12_exec 91 rfl) wf_RX12_267 (c121 hS) (s121 hS) (by decide) (congrArg Value.int (show FIv33 121 33 = x6740 from h6741)) ?_
                    refine hw_callV (Bs := [.int ((13 : Int32)), .int (x6740)]) (rest := []) (aX12_exec 92 rfl) wc_RX12_270 (by decide) rfl wi_yX12_fails wv_yX12_fails (c121 hS) (s121 hS) rfl rfl rfl (Nat.le_of_ble_eq_true rfl) (Nat.le_of_ble_eq_true rfl) (m_fails (d := d + 3) hS hF ((13 : Int32)) (x6740) ) (fun v6742 sv6743 p6744 => ?_)
                    have := ((by decide : (13 : Int32).toInt = 13) : ((13 : Int32)).toInt = 13)
                    obtain ⟨r6745, rfl, FI6746, FL6747, rfl, f6748, rfl, t6750⟩ := p6744
                    have f6751 : g_fr n SH [(121, 34)] [] [] FIv33 FI6746 := gf_old f6748
                    have rl6752 : rl_b (FI6746 139) (FI6746 140) (FI6746 141) := by rw [show FI6746 139 = FIv33 139 from f6748.2 139 (by decide) (by decide), show FI6746 140 = FIv33 140 from f6748.2 140 (by decide) (by decide), show FI6746 141 = FIv33 141 from f6748.2 141 (by decide) (by decide)]; exact rl42
                    have rl6753 : rl_h 2 (FI6746 136) (FLv34 137) (FI6746 138) := by rw [show FI6746 136 = FIv33 136 from f6748.2 136 (by decide) (by decide), show FI6746 138 = FIv33 138 from f6748.2 138 (by decide) (by decide)]; exact rl40
                    have rl6754 : rl_h 32 (FI6746 130) (FLv34 131) (FI6746 134) := by rw [show FI6746 130 = FIv33 130 from f6748.2 130 (by decide) (by decide), show FI6746 134 = FIv33 134 from f6748.2 134 (by decide) (by decide)]; exact rl41
                    have hI6755 : g_I FI6746 := g_old hI37 f6748 (g_kc (P := fun k => (g_r 121 k).1 ≤ (FI6746 121 k).toInt ∧ (FI6746 121 k).toInt ≤ (g_r 121 k).2) (g_full rfl) g_k0) g_k0
                    have rg_r6745 := i_rng r6745
                    show hw sk base _ _ _ _ _ [.int (r6745)] _ _
                    refine xw_iret (aX12_exec 93 rfl) rfl rfl ?_
                    exact ⟨r6745, rfl, FI6746, FLv34, rfl, hI6755, (gf_tr ex_rf fr35 f6751 rfl rfl rfl), fr36, (show rl_h 2 (FI6746 136) (FLv34 137) (FI6746 138) from rl6753), (show rl_h 32 (FI6746 130) (FLv34 131) (FI6746 134) from rl6754), (show rl_b (FI6746 139) (FI6746 140) (FI6746 141) from rl6752)⟩
                  · omega
        refine hw_icne (tgt := 116) (aX12_exec 13 rfl) (by decide) rfl rfl (fun cd6756 => ?_) (fun cd6756 => ?_)
        · exact hw_L (j718 (by unfold hid; show ((y5).toInt = (y7).toInt → (x59).toInt ≤ 0); omega)) ⟨rfl, rfl, rfl, rfl, rfl, rfl, rfl, rfl, trivial⟩
        · refine hw_aloadn (aX12_exec 14 rfl) rfl ?_
          refine hw_get (v := .ref (base + 142)) (aX12_exec 15 rfl) wf_RX12_78 (c121 hS) (s121 hS) (by decide) (congrArg (fun r => va_rf (h_rf base r)) (r121_45 hF)) ?_
          refine xw_iload (aX12_exec 16 rfl) rfl ?_
          refine hw_iald (v := x59) (aX12_exec 17 rfl) (c142 hS) (s142 hS) (h_in (by decide : (1 : Int32).toInt = 1) (by omega) (by omega)) (show FIv33 142 ((1 : Int32)).toNatClampNeg = x59 from h60) ?_
          refine hw_ifle (tgt := 116) (aX12_exec 18 rfl) (by decide) rfl (fun cd6757 => ?_) (fun cd6757 => ?_)
          · exact hw_L (j718 (by unfold hid; show ((y5).toInt = (y7).toInt → (x59).toInt ≤ 0); omega)) ⟨rfl, rfl, rfl, rfl, rfl, rfl, rfl, rfl, trivial⟩
          · refine hw_aloadn (aX12_exec 19 rfl) rfl ?_
            refine hw_get (v := .ref (base + 142)) (aX12_exec 20 rfl) wf_RX12_78 (c121 hS) (s121 hS) (by decide) (congrArg (fun r => va_rf (h_rf base r)) (r121_45 hF)) ?_
            refine xw_iload (aX12_exec 21 rfl) rfl ?_
            refine hw_aloadn (aX12_exec 22 rfl) rfl ?_
            refine hw_get (v := .ref (base + 142)) (aX12_exec 23 rfl) wf_RX12_78 (c121 hS) (s121 hS) (by decide) (congrArg (fun r => va_rf (h_rf base r)) (r121_45 hF)) ?_
            refine xw_iload (aX12_exec 24 rfl) rfl ?_
            refine hw_iald (v := x59) (aX12_exec 25 rfl) (c142 hS) (s142 hS) (h_in (by decide : (1 : Int32).toInt = 1) (by omega) (by omega)) (show FIv33 142 ((1 : Int32)).toNatClampNeg = x59 from h60) ?_
            refine hw_ic (v := (1 : Int32)) (aX12_exec 26 rfl) (by decide) ?_
            refine xw_isub (aX12_exec 27 rfl) ?_
            refine hw_tie (A := ((x59).toInt) - (1)) (i_sub rfl (by decide : (1 : Int32).toInt = 1) (by omega) (by omega)) (fun x6758 e6759 => ?_)
            refine hv_iast (k := 1) (aX12_exec 28 rfl) (c142 hS) (s142 hS) (h_in (by decide : (1 : Int32).toInt = 1) (by omega) (by omega)) (by decide) (fun FI6760 u6761 => ?_)
            have rl6762 : rl_h 2 (FI6760 136) (FLv34 137) (FI6760 138) := by rw [show FI6760 136 = FIv33 136 from up_row u6761 (by decide) rfl, show FI6760 138 = FIv33 138 from up_row u6761 (by decide) rfl]; exact rl40
            have rl6763 : rl_h 32 (FI6760 130) (FLv34 131) (FI6760 134) := by rw [show FI6760 130 = FIv33 130 from up_row u6761 (by decide) rfl, show FI6760 134 = FIv33 134 from up_row u6761 (by decide) rfl]; exact rl41
            have rl6764 : rl_b (FI6760 139) (FI6760 140) (FI6760 141) := by rw [show FI6760 139 = FIv33 139 from up_row u6761 (by decide) rfl, show FI6760 140 = FIv33 140 from up_row u6761 (by decide) rfl, show FI6760 141 = FIv33 141 from up_row u6761 (by decide) rfl]; exact rl42
            have hI6765 : g_I FI6760 := gU_142 hI37 u6761 (by have := (e6759 : (x6758).toInt = ((x59).toInt) - (1)); omega) (by have := (e6759 : (x6758).toInt = ((x59).toInt) - (1)); omega)
            refine hw_aloadn (aX12_exec 29 rfl) rfl ?_
            refine hw_aloadn (aX12_exec 30 rfl) rfl ?_
            refine hw_get (v := .int (x55)) (aX12_exec 31 rfl) wf_RX12_264 (c121 hS) (s121 hS) (by decide) (congrArg Value.int (show FI6760 121 29 = x55 from (up_c u6761 (by decide) (h56)))) ?_
            refine hw_ic (v := (1 : Int32)) (aX12_exec 32 rfl) (by decide) ?_
            refine xw_isub (aX12_exec 33 rfl) ?_
            refine hw_tie (A := ((x55).toInt) - (1)) (i_sub rfl (by decide : (1 : Int32).toInt = 1) (by omega) (by omega)) (fun x6766 e6767 => ?_)
            refine hv_puti (aX12_exec 34 rfl) wf_RX12_264 (c121 hS) (s121 hS) (by decide) rfl rfl (fun FI6768 u6769 => ?_)
            have rl6770 : rl_h 2 (FI6768 136) (FLv34 137) (FI6768 138) := by rw [show FI6768 136 = FI6760 136 from up_row u6769 (by decide) rfl, show FI6768 138 = FI6760 138 from up_row u6769 (by decide) rfl]; exact rl6762
            have rl6771 : rl_h 32 (FI6768 130) (FLv34 131) (FI6768 134) := by rw [show FI6768 130 = FI6760 130 from up_row u6769 (by decide) rfl, show FI6768 134 = FI6760 134 from up_row u6769 (by decide) rfl]; exact rl6763
            have rl6772 : rl_b (FI6768 139) (FI6768 140) (FI6768 141) := by rw [show FI6768 139 = FI6760 139 from up_row u6769 (by decide) rfl, show FI6768 140 = FI6760 140 from up_row u6769 (by decide) rfl, show FI6768 141 = FI6760 141 from up_row u6769 (by decide) rfl]; exact rl6764
            have hI6773 : g_I FI6768 := gU_F hI6765 u6769 rfl
            refine hw_aloadn (aX12_exec 35 rfl) rfl ?_
            refine hw_get (v := .ref (base + 139)) (aX12_exec 36 rfl) wf_RX12_69 (c121 hS) (s121 hS) (by decide) (congrArg (fun r => va_rf (h_rf base r)) (r121_26 hF)) ?_
            refine hw_aloadn (aX12_exec 37 rfl) rfl ?_
            refine hw_get (v := .int (x6766)) (aX12_exec 38 rfl) wf_RX12_264 (c121 hS) (s121 hS) (by decide) (congrArg Value.int (show FI6768 121 29 = x6766 from up_eq u6769)) ?_
            obtain ⟨x6774, h6775⟩ : ∃ y, FI6768 139 (x6766).toNatClampNeg = y := ⟨_, rfl⟩
            have h6775l := congrArg Int32.toInt h6775
            have := i_rng x6774
            refine hw_iald (v := x6774) (aX12_exec 39 rfl) (c139 hS) (s139 hS) (h_in e6767 (by omega) (by omega)) (show FI6768 139 (x6766).toNatClampNeg = x6774 from h6775) ?_
            refine xw_istore (L2 := [(5, .int (x6774)), (7, .int (y7)), (6, .int (y6)), (4, .int ((1 : Int32))), (0, .ref (base + 121)), (1, .int ((1 : Int32))), (2, .int (a2)), (3, .int (a3))]) (aX12_exec 40 rfl) (by decide) rfl ?_
            refine hw_aloadn (aX12_exec 41 rfl) rfl ?_
            refine hw_get (v := .ref (base + 140)) (aX12_exec 42 rfl) wf_RX12_72 (c121 hS) (s121 hS) (by decide) (congrArg (fun r => va_rf (h_rf base r)) (r121_27 hF)) ?_
            refine hw_aloadn (aX12_exec 43 rfl) rfl ?_
            refine hw_get (v := .int (x6766)) (aX12_exec 44 rfl) wf_RX12_264 (c121 hS) (s121 hS) (by decide) (congrArg Value.int (show FI6768 121 29 = x6766 from up_eq u6769)) ?_
            obtain ⟨x6776, h6777⟩ : ∃ y, FI6768 140 (x6766).toNatClampNeg = y := ⟨_, rfl⟩
            have h6777l := congrArg Int32.toInt h6777
            have := i_rng x6776
            refine hw_iald (v := x6776) (aX12_exec 45 rfl) (c140 hS) (s140 hS) (h_in e6767 (by omega) (by omega)) (show FI6768 140 (x6766).toNatClampNeg = x6776 from h6777) ?_
            refine xw_istore (L2 := [(6, .int (x6776)), (5, .int (x6774)), (7, .int (y7)), (4, .int ((1 : Int32))), (0, .ref (base + 121)), (1, .int ((1 : Int32))), (2, .int (a2)), (3, .int (a3))]) (aX12_exec 46 rfl) (by decide) rfl ?_
            refine hw_aloadn (aX12_exec 47 rfl) rfl ?_
            refine hw_get (v := .ref (base + 141)) (aX12_exec 48 rfl) wf_RX12_75 (c121 hS) (s121 hS) (by decide) (congrArg (fun r => va_rf (h_rf base r)) (r121_28 hF)) ?_
            refine hw_aloadn (aX12_exec 49 rfl) rfl ?_
            refine hw_get (v := .int (x6766)) (aX12_exec 50 rfl) wf_RX12_264 (c121 hS) (s121 hS) (by decide) (congrArg Value.int (show FI6768 121 29 = x6766 from up_eq u6769)) ?_
            obtain ⟨x6778, h6779⟩ : ∃ y, FI6768 141 (x6766).toNatClampNeg = y := ⟨_, rfl⟩
            have h6779l := congrArg Int32.toInt h6779
            have := i_rng x6778
            refine hw_iald (v := x6778) (aX12_exec 51 rfl) (c141 hS) (s141 hS) (h_in e6767 (by omega) (by omega)) (show FI6768 141 (x6766).toNatClampNeg = x6778 from h6779) ?_
            refine xw_istore (L2 := [(7, .int (x6778)), (6, .int (x6776)), (5, .int (x6774)), (4, .int ((1 : Int32))), (0, .ref (base + 121)), (1, .int ((1 : Int32))), (2, .int (a2)), (3, .int (a3))]) (aX12_exec 52 rfl) (by decide) rfl ?_
            have hb := rl6772 ((x6766)).toNatClampNeg (i_lt (rfl : ((x6766)).toInt = _) (by omega) (by omega))
            refine xw_iload (aX12_exec 53 rfl) rfl ?_
            refine hw_ifne (tgt := 18) (aX12_exec 54 rfl) (by decide) (by decide : (1 : Int32).toInt = 1) (fun cd6780 => ?_) (fun cd6780 => ?_)
            · exact hw_L (ih (x6778) (x6776) (x6774) ((1 : Int32)) FI6768 FLv34 (gf_f (gf_a fr35 u6761 (by decide)) u6769 (by decide)) fr36 hI6773 (show FI6768 121 5 = x5 from (up_k u6769 (by decide) ((up_c u6761 (by decide) (kp38))))) (show FI6768 121 6 = x8 from (up_k u6769 (by decide) ((up_c u6761 (by decide) (kp39))))) (show rl_h 2 (FI6768 136) (FLv34 137) (FI6768 138) from rl6770) (show rl_h 32 (FI6768 130) (FLv34 131) (FI6768 134) from rl6771) (show rl_b (FI6768 139) (FI6768 140) (FI6768 141) from rl6772) (by have := ((by decide : (1 : Int32).toInt = 1) : ((1 : Int32)).toInt = 1); omega) (by have := ((by decide : (1 : Int32).toInt = 1) : ((1 : Int32)).toInt = 1); omega) (by have := ((by decide : (1 : Int32).toInt = 1) : ((1 : Int32)).toInt = 1); omega) (by have := ((by decide : (1 : Int32).toInt = 1) : ((1 : Int32)).toInt = 1); omega) (by have := ((by decide : (1 : Int32).toInt = 1) : ((1 : Int32)).toInt = 1); have := congrArg Int32.toInt (show FI6768 121 29 = x6766 from up_eq u6769); have := (e6767 : (x6766).toInt = ((x55).toInt) - (1)); omega) (by have := ((by decide : (1 : Int32).toInt = 1) : ((1 : Int32)).toInt = 1); have := congrArg Int32.toInt (show FI6768 121 30 = x57 from (up_k u6769 (by decide) ((up_c u6761 (by decide) (h58))))); omega) (by have := ((by decide : (1 : Int32).toInt = 1) : ((1 : Int32)).toInt = 1); omega) (by have := ((by decide : (1 : Int32).toInt = 1) : ((1 : Int32)).toInt = 1); omega) (by have := ((by decide : (1 : Int32).toInt = 1) : ((1 : Int32)).toInt = 1); omega) (by have := ((by decide : (1 : Int32).toInt = 1) : ((1 : Int32)).toInt = 1); omega) (by have := ((by decide : (1 : Int32).toInt = 1) : ((1 : Int32)).toInt = 1); have := congrArg Int32.toInt (show FI6768 142 1 = x6758 from (up_c u6769 (by decide) (up_eq u6761))); have := (e6759 : (x6758).toInt = ((x59).toInt) - (1)); have := congrArg Int32.toInt (show FI6768 121 29 = x6766 from up_eq u6769); have := (e6767 : (x6766).toInt = ((x55).toInt) - (1)); omega) (by have := ((by decide : (1 : Int32).toInt = 1) : ((1 : Int32)).toInt = 1); have := congrArg Int32.toInt (show FI6768 121 29 = x6766 from up_eq u6769); have := (e6767 : (x6766).toInt = ((x55).toInt) - (1)); have := congrArg Int32.toInt (show FI6768 121 30 = x57 from (up_k u6769 (by decide) ((up_c u6761 (by decide) (h58))))); omega)) ⟨rfl, rfl, rfl, rfl, rfl, rfl, rfl, rfl, trivial⟩
            · omega
  exact hw_L (lp54 ((40 * (x3).toInt + 2 * (x1).toInt + 1 : Int).toNat + 1) (a3) (a2) (a2) ((1 : Int32)) FI18 FL (gf_tr ex_rf gf_rf f29 rfl rfl rfl) gf_rf hI32 (show FI18 121 5 = x5 from (gf_at f29 (c121 hS) (s121 hS) rfl (h6))) (show FI18 121 6 = x8 from (gf_at f29 (c121 hS) (s121 hS) rfl (h9))) (show rl_h 2 (FI18 136) (FL 137) (FI18 138) from rl28) (show rl_h 32 (FI18 130) (FL 131) (FI18 134) from rl30) (show rl_b (FI18 139) (FI18 140) (FI18 141) from rl31) (by have := ((by decide : (1 : Int32).toInt = 1) : ((1 : Int32)).toInt = 1); omega) (by have := ((by decide : (1 : Int32).toInt = 1) : ((1 : Int32)).toInt = 1); omega) (by have := ((by decide : (1 : Int32).toInt = 1) : ((1 : Int32)).toInt = 1); omega) (by have := ((by decide : (1 : Int32).toInt = 1) : ((1 : Int32)).toInt = 1); omega) (by have := ((by decide : (1 : Int32).toInt = 1) : ((1 : Int32)).toInt = 1); have := congrArg Int32.toInt (show FI18 121 29 = x1 from (gf_at f29 (c121 hS) (s121 hS) rfl (h2))); omega) (by have := ((by decide : (1 : Int32).toInt = 1) : ((1 : Int32)).toInt = 1); have := congrArg Int32.toInt (show FI18 121 30 = x3 from (gf_at f29 (c121 hS) (s121 hS) rfl (h4))); omega) (by have := ((by decide : (1 : Int32).toInt = 1) : ((1 : Int32)).toInt = 1); omega) (by have := ((by decide : (1 : Int32).toInt = 1) : ((1 : Int32)).toInt = 1); omega) (by have := ((by decide : (1 : Int32).toInt = 1) : ((1 : Int32)).toInt = 1); omega) (by have := ((by decide : (1 : Int32).toInt = 1) : ((1 : Int32)).toInt = 1); omega) (by have := ((by decide : (1 : Int32).toInt = 1) : ((1 : Int32)).toInt = 1); have := congrArg Int32.toInt (show FI18 142 1 = (0 : Int32) from (show FI18 142 1 = (0 : Int32) from u22.1)); have := ((by decide : (0 : Int32).toInt = 0) : ((0 : Int32)).toInt = 0); have := congrArg Int32.toInt (show FI18 121 29 = x1 from (gf_at f29 (c121 hS) (s121 hS) rfl (h2))); omega) (by have := ((by decide : (1 : Int32).toInt = 1) : ((1 : Int32)).toInt = 1); have := congrArg Int32.toInt (show FI18 121 29 = x1 from (gf_at f29 (c121 hS) (s121 hS) rfl (h2))); have := congrArg Int32.toInt (show FI18 121 30 = x3 from (gf_at f29 (c121 hS) (s121 hS) rfl (h4))); omega)) ⟨rfl, rfl, rfl, rfl, rfl, rfl, rfl, rfl, trivial⟩
