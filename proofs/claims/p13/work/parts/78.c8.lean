def nX8_take : Nat := 0xb1ddffa70102842500b6321c0d00b42b321c0d00b42a1800a2be0d00b42a1c2100a22100b62b1c3d031600b51600b42b2a1200b51200b42b2a
theorem bX8_take : cX8_take.data.toList.map UInt8.toNat = x_un nX8_take 57 := by decide +kernel
def iX8_take : List (Nat × Jvm.ClassFile.Instr × Nat) := [(0, .aload_n 0, 1), (1, .aload_n 1, 1), (2, .getfield 18, 3), (5, .putfield 18, 3), (8, .aload_n 0, 1), (9, .aload_n 1, 1), (10, .getfield 22, 3), (13, .putfield 22, 3), (16, .iconst 0, 1), (17, .istore_n 2, 1), (18, .iload_n 2, 1), (19, .aload_n 1, 1), (20, .invokevirtual 33, 3), (23, .if_icmp .ge 33, 3), (26, .iload_n 2, 1), (27, .aload_n 0, 1), (28, .getfield 13, 3), (31, .arraylength, 1), (32, .if_icmp .ge 24, 3), (35, .aload_n 0, 1), (36, .getfield 13, 3), (39, .iload_n 2, 1), (40, .aaload, 1), (41, .aload_n 1, 1), (42, .getfield 13, 3), (45, .iload_n 2, 1), (46, .aaload, 1), (47, .invokevirtual 37, 3), (50, .iinc 2 1, 3), (53, .goto (-35), 3), (56, .return_, 1)]
theorem dX8_take : x_il nX8_take 57 iX8_take = true := by decide +kernel
theorem aX8_take (k : Nat) {pc : Nat} {i : Jvm.ClassFile.Instr} {len : Nat} (hk : iX8_take[k]? = some (pc, i, len)) : x_at xMM 82 pc i len yX8_take 3 none := ⟨cX8_take, rfl, x_il_ok bX8_take dX8_take k hk⟩
set_option maxHeartbeats 4000000 in
set_option maxRecDepth 100000 in
theorem k_X8_take {sk : xK} {base d n sl : Nat} {SH : Nat → Nat × Nat} {FI : Nat → Nat → Int32} {FL : Nat → Nat → Int64} {FR : Nat → Nat → Option Nat} (hS : h_S n SH) (hF : h_FR FR) (hI : g_I FI) (hR : g_R n SH FR) (c : Nat) {zc : Nat} (hc : c < n) (hsc : SH c = (8, zc)) (hoc : own c) (a1 : Nat) {z1 : Nat} (ha1l : a1 < n) (ha1s : SH a1 = (8, z1)) (ha1o : own a1) : hw sk base (d + 1) none 82 0 [(0, .ref (base + c)), (1, .ref (base + a1))] [] (n, sl, SH, FI, FL, FR) (h_V (fun s => ∃ FI' FL' FR', s = (n, sl, SH, FI', FL', FR') ∧ g_I FI' ∧ g_fr n (shd SH) [] [] [5, 8] FI FI' ∧ g_fr n (shd SH) [] [] [5] FL FL' ∧ g_fr n (shd SH) [] [] [5] FR FR' ∧ h_FR FR' ∧ g_R n SH FR')) := by
  refine hw_aloadn (aX8_take 0 rfl) rfl ?_
  refine hw_aloadn (aX8_take 1 rfl) rfl ?_
  obtain ⟨x1, h2⟩ : ∃ y, FI a1 1 = y := ⟨_, rfl⟩
  have h2l := congrArg Int32.toInt h2
  have := i_rng x1
  have b3 := gI_s (k := 1) (lo := 0) (hi := 16) hI hS hR ha1l ha1s (by unfold g_dt; omega) (by decide +kernel); rw [h2] at b3
  refine hw_get (v := .int (x1)) (aX8_take 2 rfl) wf_RX8_18 ha1l ha1s (by decide) (congrArg Value.int (show FI a1 1 = x1 from h2)) ?_
  refine hv_puti (aX8_take 3 rfl) wf_RX8_18 hc hsc (by decide) rfl rfl (fun FI4 u5 => ?_)
  have hI6 : g_I FI4 := gU_s (k := 1) (lo := 0) (hi := 16) hI hS hR hc hsc (by unfold g_dt; omega) (by decide +kernel) u5 (by omega) (by omega)
  refine hw_aloadn (aX8_take 4 rfl) rfl ?_
  refine hw_aloadn (aX8_take 5 rfl) rfl ?_
  obtain ⟨x7, h8⟩ : ∃ y, FI4 a1 2 = y := ⟨_, rfl⟩
  have h8l := congrArg Int32.toInt h8
  have := i_rng x7
  refine hw_get (v := .int (x7)) (aX8_take 6 rfl) wf_RX8_22 ha1l ha1s (by decide) (congrArg Value.int (show FI4 a1 2 = x7 from h8)) ?_
  refine hv_puti (aX8_take 7 rfl) wf_RX8_22 hc hsc (by decide) rfl rfl (fun FI9 u10 => ?_)
  have hI11 : g_I FI9 := gU_g hI6 hS u10 hsc (by decide +kernel)
  refine hw_ic (v := (0 : Int32)) (aX8_take 8 rfl) (by decide) ?_
  refine xw_istoren (L2 := [(2, .int ((0 : Int32))), (0, .ref (base + c)), (1, .ref (base + a1))]) (aX8_take 9 rfl) (by decide) rfl ?_
  have lp24 : ∀ (m : Nat) (y2 : Int32) (FIv12 : Nat → Nat → Int32) (FLv13 : Nat → Nat → Int64) (FRv14 : Nat → Nat → Option Nat), (g_fr n (shd SH) [] [] [5, 8] FI FIv12) → (g_fr n (shd SH) [] [] [5] FL FLv13) → (g_fr n (shd SH) [] [] [5] FR FRv14) → (g_I FIv12) → (h_FR FRv14) → (g_R n SH FRv14) → (FIv12 c 1 = x1) → (FIv12 c 2 = x7) → (0 ≤ (y2).toInt ∧ (y2).toInt ≤ 16) → 16 - (y2).toInt < m → hw sk base (d + 1) none 82 18 [(2, .int (y2)), (0, .ref (base + c)), (1, .ref (base + a1))] [] (n, sl, SH, FIv12, FLv13, FRv14) (h_V (fun s => ∃ FI' FL' FR', s = (n, sl, SH, FI', FL', FR') ∧ g_I FI' ∧ g_fr n (shd SH) [] [] [5, 8] FI FI' ∧ g_fr n (shd SH) [] [] [5] FL FL' ∧ g_fr n (shd SH) [] [] [5] FR FR' ∧ h_FR FR' ∧ g_R n SH FR')) := by
    intro m
    induction m with
    | zero => intro y2 FIv12 FLv13 FRv14 fr15 fr16 fr17 hI18 hF19 hR20 kp21 kp22 iv23 hm; omega
    | succ m ih =>
      intro y2 FIv12 FLv13 FRv14 fr15 fr16 fr17 hI18 hF19 hR20 kp21 kp22 iv23 hm
      have rg_y2 := i_rng y2
      have := congrArg Int32.toInt kp21
      have := congrArg Int32.toInt kp22
      refine xw_iloadn (aX8_take 10 rfl) rfl ?_
      refine hw_aloadn (aX8_take 11 rfl) rfl ?_
      refine hw_callV (Bs := []) (rest := [.int (y2)]) (aX8_take 12 rfl) wc_RX8_33 (by decide) rfl wi_yX8_count wv_yX8_count ha1l ha1s rfl rfl rfl (Nat.le_of_ble_eq_true rfl) (Nat.le_of_ble_eq_true rfl) (k_X8_count (d := d) hS hF19 hI18 hR20 (a1) ha1l ha1s ha1o ) (fun v25 sv26 p27 => ?_)
      obtain ⟨x35, h36⟩ : ∃ y, FIv12 a1 1 = y := ⟨_, rfl⟩
      have h36l := congrArg Int32.toInt h36
      have := i_rng x35
      have b37 := gI_s (k := 1) (lo := 0) (hi := 16) hI18 hS hR20 ha1l ha1s (by unfold g_dt; omega) (by decide +kernel); rw [h36] at b37
      have := congrArg Int32.toInt (show FIv12 a1 1 = x35 from h36)
      obtain ⟨r28, rfl, rfl, t32⟩ := p27
      have rg_r28 := i_rng r28
      show hw sk base _ _ _ _ _ [.int (r28), .int (y2)] _ _
      refine hw_icge (tgt := 56) (aX8_take 13 rfl) (by decide) rfl rfl (fun cd38 => ?_) (fun cd38 => ?_)
      · refine xw_vret (aX8_take 30 rfl) rfl ?_
        exact ⟨rfl, FIv12, FLv13, FRv14, rfl, hI18, fr15, fr16, fr17, hF19, hR20⟩
      · refine xw_iloadn (aX8_take 14 rfl) rfl ?_
        refine hw_aloadn (aX8_take 15 rfl) rfl ?_
        obtain ⟨r39, h40, lt41, ow42, sh43, fx44⟩ := g_nz (k := 0) (ty := 103) (zz := 16) hS hF19 hR20 hc hsc (by unfold g_dt; omega) (by decide +kernel)
        refine hw_get (v := .ref (base + r39)) (aX8_take 16 rfl) wf_RX8_13 hc hsc (by decide) (congrArg (fun r => va_rf (h_rf base r)) (show FRv14 c 0 = some r39 from h40)) ?_
        refine hw_alen (k := 3) (z := 16) (v := (16 : Int32)) (aX8_take 17 rfl) lt41 sh43 (by decide) (by decide) ?_
        refine hw_icge (tgt := 56) (aX8_take 18 rfl) (by decide) rfl (by decide : (16 : Int32).toInt = 16) (fun cd45 => ?_) (fun cd45 => ?_)
        · refine xw_vret (aX8_take 30 rfl) rfl ?_
          exact ⟨rfl, FIv12, FLv13, FRv14, rfl, hI18, fr15, fr16, fr17, hF19, hR20⟩
        · refine hw_aloadn (aX8_take 19 rfl) rfl ?_
          refine hw_get (v := .ref (base + r39)) (aX8_take 20 rfl) wf_RX8_13 hc hsc (by decide) (congrArg (fun r => va_rf (h_rf base r)) (show FRv14 c 0 = some r39 from h40)) ?_
          refine xw_iloadn (aX8_take 21 rfl) rfl ?_
          obtain ⟨o46, h47⟩ : ∃ y, FRv14 r39 (y2).toNatClampNeg = y := ⟨_, rfl⟩
          have ht48 : ∀ r, o46 = some r → r < n ∧ own r ∧ SH r = (5, (SH r).2) := fun r e => gR_get hR20 lt41 ow42 sh43 (h47.trans e)
          refine hw_aald (k := 3) (v := o46) (aX8_take 22 rfl) lt41 sh43 (by decide) (by decide) (h_in rfl (by omega) (by omega)) (show FRv14 r39 (y2).toNatClampNeg = o46 from h47) ?_
          obtain ⟨r49, rfl⟩ : ∃ r, o46 = some r := by obtain ⟨r, hr⟩ := g_th hS hF19 hR20 lt41 sh43 (i := (y2).toNatClampNeg) (i_lt (x := y2) rfl (by omega) (by omega)); exact ⟨r, (show _ = _ from h47).symm.trans hr⟩
          obtain ⟨lt51, ow52, sh53⟩ := ht48 r49 rfl
          show hw sk base _ _ _ _ [(2, .int (y2)), (0, .ref (base + c)), (1, .ref (base + a1))] [.ref (base + r49)] _ _
          refine hw_aloadn (aX8_take 23 rfl) rfl ?_
          obtain ⟨r54, h55, lt56, ow57, sh58, fx59⟩ := g_nz (k := 0) (ty := 103) (zz := 16) hS hF19 hR20 ha1l ha1s (by unfold g_dt; omega) (by decide +kernel)
          refine hw_get (v := .ref (base + r54)) (aX8_take 24 rfl) wf_RX8_13 ha1l ha1s (by decide) (congrArg (fun r => va_rf (h_rf base r)) (show FRv14 a1 0 = some r54 from h55)) ?_
          refine xw_iloadn (aX8_take 25 rfl) rfl ?_
          obtain ⟨o60, h61⟩ : ∃ y, FRv14 r54 (y2).toNatClampNeg = y := ⟨_, rfl⟩
          have ht62 : ∀ r, o60 = some r → r < n ∧ own r ∧ SH r = (5, (SH r).2) := fun r e => gR_get hR20 lt56 ow57 sh58 (h61.trans e)
          refine hw_aald (k := 3) (v := o60) (aX8_take 26 rfl) lt56 sh58 (by decide) (by decide) (h_in rfl (by omega) (by omega)) (show FRv14 r54 (y2).toNatClampNeg = o60 from h61) ?_
          obtain ⟨r63, rfl⟩ : ∃ r, o60 = some r := by obtain ⟨r, hr⟩ := g_th hS hF19 hR20 lt56 sh58 (i := (y2).toNatClampNeg) (i_lt (x := y2) rfl (by omega) (by omega)); exact ⟨r, (show _ = _ from h61).symm.trans hr⟩
          obtain ⟨lt65, ow66, sh67⟩ := ht62 r63 rfl
          show hw sk base _ _ _ _ [(2, .int (y2)), (0, .ref (base + c)), (1, .ref (base + a1))] [.ref (base + r63), .ref (base + r49)] _ _
          refine hw_callV (Bs := [.ref (base + r63)]) (rest := []) (aX8_take 27 rfl) wc_RX8_37 (by decide) rfl wi_yX5_take wv_yX5_take lt51 sh53 rfl rfl rfl (Nat.le_of_ble_eq_true rfl) (Nat.le_of_ble_eq_true rfl) (k_X5_take (d := d) hS hF19 hI18 hR20 (r49) lt51 sh53 ow52 (r63) lt65 sh67 ow66 ) (fun v68 sv69 p70 => ?_)
          obtain ⟨rfl, FI72, FL73, FR74, rfl, hI75, f76, f77, f78, hF79, hR80⟩ := p70
          show hw sk base _ _ _ _ _ [] _ _
          obtain ⟨x83, q85⟩ : ∃ y : Int32, (y2) + Int32.ofInt (1) = y := ⟨_, rfl⟩
          have e84 : (x83).toInt = (y2).toInt + (1) := by rw [← q85]; exact i_add rfl (by decide) (by omega) (by omega)
          refine xw_iinc (L2 := [(2, .int (x83)), (0, .ref (base + c)), (1, .ref (base + a1))]) (aX8_take 28 rfl) rfl (by decide) (by rw [q85]; rfl) ?_
          refine xw_goto (tgt := 18) (aX8_take 29 rfl) (by decide) ?_
          exact hw_L (ih (x83) FI72 FL73 FR74 (gf_tr ex_rf fr15 f76 rfl rfl rfl) (gf_tr ex_rf fr16 f77 rfl rfl rfl) (gf_tr ex_rf fr17 f78 rfl rfl rfl) hI75 hF79 hR80 (show FI72 c 1 = x1 from (gf_at f76 hc (shd_f (fix_t2 hS hR20 hc hsc (by unfold g_dt; omega) (by decide +kernel)) hsc) rfl (kp21))) (show FI72 c 2 = x7 from (gf_at f76 hc (shd_f (fix_t2 hS hR20 hc hsc (by unfold g_dt; omega) (by decide +kernel)) hsc) rfl (kp22))) (by have := (e84 : (x83).toInt = (y2).toInt + (1)); omega) (by have := (e84 : (x83).toInt = (y2).toInt + (1)); omega)) ⟨rfl, rfl, rfl, trivial⟩
  exact hw_L (lp24 ((16 - 0 : Int).toNat + 1) ((0 : Int32)) FI9 FL FR (gf_t (gf_t gf_rf u5 (shd_f (fix_t2 hS hR hc hsc (by unfold g_dt; omega) (by decide +kernel)) hsc) (by decide)) u10 (shd_f (fix_t2 hS hR hc hsc (by unfold g_dt; omega) (by decide +kernel)) hsc) (by decide)) gf_rf gf_rf hI11 hF hR (show FI9 c 1 = x1 from (up_k u10 (by decide) (up_eq u5))) (show FI9 c 2 = x7 from up_eq u10) (by have := ((by decide : (0 : Int32).toInt = 0) : ((0 : Int32)).toInt = 0); omega) (by have := ((by decide : (0 : Int32).toInt = 0) : ((0 : Int32)).toInt = 0); omega)) ⟨rfl, rfl, rfl, trivial⟩
