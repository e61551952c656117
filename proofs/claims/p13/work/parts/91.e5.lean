def nX2_meet : Nat := 0xb16000b609031500b42a0c00a77000b6be6c00b42b0800a7030700c76c00b42b036c00b42b1500b42a2b00a76000b66800b6036400b42b2a5900b42b1500b42a4200a76000b65c00b42b051500b42a460000002f000000200000002f000000040000000100000065000000000000aa5900b42b
theorem bX2_meet : cX2_meet.data.toList.map UInt8.toNat = x_un nX2_meet 115 := by decide +kernel
def iX2_meet : List (Nat × Jvm.ClassFile.Instr × Nat) := [(0, .aload_n 1, 1), (1, .getfield 89, 3), (36, .aload_n 0, 1), (37, .getfield 21, 3), (40, .iconst 2, 1), (41, .aload_n 1, 1), (42, .getfield 92, 3), (45, .invokevirtual 96, 3), (48, .goto 66, 3), (51, .aload_n 0, 1), (52, .getfield 21, 3), (55, .aload_n 1, 1), (56, .getfield 89, 3), (59, .aload_n 0, 1), (60, .aload_n 1, 1), (61, .getfield 100, 3), (64, .iconst 0, 1), (65, .invokevirtual 104, 3), (68, .invokevirtual 96, 3), (71, .goto 43, 3), (74, .aload_n 0, 1), (75, .getfield 21, 3), (78, .aload_n 1, 1), (79, .getfield 108, 3), (82, .iconst 0, 1), (83, .aload_n 1, 1), (84, .getfield 108, 3), (87, .ifnonnull 7, 3), (90, .iconst 0, 1), (91, .goto 8, 3), (94, .aload_n 1, 1), (95, .getfield 108, 3), (98, .arraylength, 1), (99, .invokevirtual 112, 3), (102, .goto 12, 3), (105, .aload_n 0, 1), (106, .getfield 21, 3), (109, .iconst 0, 1), (110, .lconst 0, 1), (111, .invokevirtual 96, 3), (114, .return_, 1)]
theorem dX2_meet : x_il nX2_meet 115 iX2_meet = true := by decide +kernel
theorem aX2_meet (k : Nat) {pc : Nat} {i : Jvm.ClassFile.Instr} {len : Nat} (hk : iX2_meet[k]? = some (pc, i, len)) : x_at xMM 29 pc i len yX2_meet 2 none := ⟨cX2_meet, rfl, x_il_ok bX2_meet dX2_meet k hk⟩
theorem aX2_meet_4 : x_at xMM 29 4 (.tableswitch 101 1 4 #[47, 32, 47, 70]) 32 yX2_meet 2 none := ⟨cX2_meet, rfl, by decide +kernel⟩
set_option maxHeartbeats 4000000 in
set_option maxRecDepth 100000 in
theorem k_X2_meet {sk : xK} {base d n sl : Nat} {SH : Nat → Nat × Nat} {FI : Nat → Nat → Int32} {FL : Nat → Nat → Int64} {FR : Nat → Nat → Option Nat} (hS : h_S n SH) (hF : h_FR FR) (hI : g_I FI) (hR : g_R n SH FR) (a1 : Nat) {z1 : Nat} (ha1l : a1 < n) (ha1s : SH a1 = (6, z1)) (ha1o : own a1) (gp : Nat → Nat) (gw : Nat → Nat) (gs : Nat → Nat) (gg0 : g_T n SH FI FR gp gw gs) : hw sk base (d + 301) none 29 0 [(0, .ref (base + 90)), (1, .ref (base + a1))] [] (n, sl, SH, FI, FL, FR) (h_V (fun s => ∃ FI' FL' FR', s = (n, sl, SH, FI', FL', FR') ∧ g_I FI' ∧ g_fr n (shd SH) [(48, 5), (48, 6), (48, 7), (48, 8), (48, 9), (48, 10), (48, 11), (49, 5), (49, 6), (49, 7), (49, 8), (49, 9), (49, 10), (49, 11), (90, 4)] [] [5, 8, 9] FI FI' ∧ g_fr n (shd SH) [(48, 12), (48, 13), (48, 14), (48, 15), (49, 12), (49, 13), (49, 14), (49, 15)] [] [5, 9, 101] FL FL' ∧ g_fr n (shd SH) [] [] [5] FR FR' ∧ h_FR FR' ∧ g_R n SH FR')) := by
  refine hw_aloadn (aX2_meet 0 rfl) rfl ?_
  obtain ⟨x1, h2⟩ : ∃ y, FI a1 0 = y := ⟨_, rfl⟩
  have h2l := congrArg Int32.toInt h2
  have := i_rng x1
  refine hw_get (v := .int (x1)) (aX2_meet 1 rfl) wf_RX2_89 ha1l ha1s (by decide) (congrArg Value.int (show FI a1 0 = x1 from h2)) ?_
  have hsw : ((x1).toInt < 1 ∨ 4 < (x1).toInt) ∨ ((x1).toInt = 1 ∨ (x1).toInt = 3) ∨ ((x1).toInt = 2) ∨ ((x1).toInt = 4) := by omega
  rcases hsw with hsw | hsw | hsw | hsw
  · refine xw_tsw (tgt := 105) aX2_meet_4 (Or.inl ⟨hsw, by decide⟩) ?_
    refine hw_aloadn (aX2_meet 35 rfl) rfl ?_
    refine hw_get (v := .ref (base + 109)) (aX2_meet 36 rfl) wf_RX2_21 (c90 hS) (s90 hS) (by decide) (congrArg (fun r => va_rf (h_rf base r)) (r90_3 hF)) ?_
    refine hw_ic (v := (0 : Int32)) (aX2_meet 37 rfl) (by decide) ?_
    refine hw_lc (v := (0 : Int64)) (aX2_meet 38 rfl) (by decide) ?_
    refine hw_callV (Bs := [.int ((0 : Int32)), .long ((0 : Int64))]) (rest := []) (aX2_meet 39 rfl) wc_RX2_96 (by decide) rfl wi_yX5_become wv_yX5_become (c109 hS) (s109 hS) rfl rfl rfl (Nat.le_of_ble_eq_true rfl) (Nat.le_of_ble_eq_true rfl) (k_X5_become (d := d + 300) hS hF hI hR (109) (c109 hS) (s109 hS) (Or.inl (by decide)) ((0 : Int32)) ((0 : Int64)) ) (fun v3 sv4 p5 => ?_)
    obtain ⟨rfl, FI7, FL8, rfl, hI9, f10, f11⟩ := p5
    show hw sk base _ _ _ _ _ [] _ _
    refine xw_vret (aX2_meet 40 rfl) rfl ?_
    exact ⟨rfl, FI7, FL8, FR, rfl, hI9, (gf_tr ex_rf gf_rf f10 rfl rfl rfl), (gf_tr ex_rf gf_rf f11 rfl rfl rfl), gf_rf, hF, hR⟩
  · refine xw_tsw (tgt := 51) aX2_meet_4 (by rcases hsw with hsw | hsw <;> exact Or.inr ⟨by omega, by omega, _, by rw [hsw]; rfl, by decide⟩) ?_
    refine hw_aloadn (aX2_meet 9 rfl) rfl ?_
    refine hw_get (v := .ref (base + 109)) (aX2_meet 10 rfl) wf_RX2_21 (c90 hS) (s90 hS) (by decide) (congrArg (fun r => va_rf (h_rf base r)) (r90_3 hF)) ?_
    refine hw_aloadn (aX2_meet 11 rfl) rfl ?_
    refine hw_get (v := .int (x1)) (aX2_meet 12 rfl) wf_RX2_89 ha1l ha1s (by decide) (congrArg Value.int (show FI a1 0 = x1 from h2)) ?_
    refine hw_aloadn (aX2_meet 13 rfl) rfl ?_
    refine hw_aloadn (aX2_meet 14 rfl) rfl ?_
    obtain ⟨o16, h17⟩ : ∃ y, FR a1 2 = y := ⟨_, rfl⟩
    have ht18 : ∀ r, o16 = some r → r < n ∧ own r ∧ SH r = (3, (SH r).2) := fun r e => gR_get hR ha1l ha1o ha1s (h17.trans e)
    refine hw_get (v := va_rf (h_rf base (o16))) (aX2_meet 15 rfl) wf_RX2_100 ha1l ha1s (by decide) (congrArg (fun r => va_rf (h_rf base r)) (show FR a1 2 = o16 from h17)) ?_
    refine hw_ic (v := (0 : Int32)) (aX2_meet 16 rfl) (by decide) ?_
    refine hw_callVo (Bs := [va_rf (h_rf base (o16)), .int ((0 : Int32))]) (rest := [.int (x1), .ref (base + 109)]) (L2 := [(0, .ref (base + 90)), (1, va_rf (h_rf base (o16))), (2, .int ((0 : Int32)))]) (aX2_meet 17 rfl) wc_RX2_104 (by decide) rfl wi_yX2_value wv_yX2_value (c90 hS) (s90 hS) rfl rfl rfl (Nat.le_of_ble_eq_true rfl) (by simp [lg_sl, va_cat, va_ci, va_cl, va_cr, va_cn]) (by simp [lv_args, va_cat, va_ci, va_cl, va_cr, va_cn]) (k_value (d := d) hS hF hI hR (o16) ht18 ((0 : Int32)) (gp) (gw) (gs) (by have := ((by decide : (0 : Int32).toInt = 0) : ((0 : Int32)).toInt = 0); have := ((by decide : (0 : Int32).toInt = 0) : ((0 : Int32)).toInt = 0); omega) ((gT_mw (L := [(48, 5), (48, 6), (48, 7), (48, 8), (48, 9), (48, 10), (48, 11), (49, 5), (49, 6), (49, 7), (49, 8), (49, 9), (49, 10), (49, 11), (90, 4)]) (A := []) (T := [5, 8, 9]) (L2 := []) (A2 := []) (T2 := [5]) hS gg0 gf_rf gf_rf (by decide) (by decide)))) (fun v19 sv20 p21 => ?_)
    obtain ⟨r22, rfl, FI23, FL24, FR25, rfl, hI26, f27, f28, f29, hF30, hR31⟩ := p21
    have rg_r22 := l_rng r22
    show hw sk base _ _ _ _ _ [.long (r22), .int (x1), .ref (base + 109)] _ _
    refine hw_callV (Bs := [.int (x1), .long (r22)]) (rest := []) (aX2_meet 18 rfl) wc_RX2_96 (by decide) rfl wi_yX5_become wv_yX5_become (c109 hS) (s109 hS) rfl rfl rfl (Nat.le_of_ble_eq_true rfl) (Nat.le_of_ble_eq_true rfl) (k_X5_become (d := d + 300) hS hF30 hI26 hR31 (109) (c109 hS) (s109 hS) (Or.inl (by decide)) (x1) (r22) ) (fun v34 sv35 p36 => ?_)
    obtain ⟨rfl, FI38, FL39, rfl, hI40, f41, f42⟩ := p36
    show hw sk base _ _ _ _ _ [] _ _
    refine xw_goto (tgt := 114) (aX2_meet 19 rfl) (by decide) ?_
    refine xw_vret (aX2_meet 40 rfl) rfl ?_
    exact ⟨rfl, FI38, FL39, FR25, rfl, hI40, (gf_tr ex_rf (gf_tr ex_rf gf_rf f27 rfl rfl rfl) f41 rfl rfl rfl), (gf_tr ex_rf (gf_tr ex_rf gf_rf f28 rfl rfl rfl) f42 rfl rfl rfl), (gf_tr ex_rf gf_rf f29 rfl rfl rfl), hF30, hR31⟩
  · refine xw_tsw (tgt := 36) aX2_meet_4 (by exact Or.inr ⟨by omega, by omega, _, by rw [hsw]; rfl, by decide⟩) ?_
    refine hw_aloadn (aX2_meet 2 rfl) rfl ?_
    refine hw_get (v := .ref (base + 109)) (aX2_meet 3 rfl) wf_RX2_21 (c90 hS) (s90 hS) (by decide) (congrArg (fun r => va_rf (h_rf base r)) (r90_3 hF)) ?_
    refine hw_ic (v := (2 : Int32)) (aX2_meet 4 rfl) (by decide) ?_
    refine hw_aloadn (aX2_meet 5 rfl) rfl ?_
    obtain ⟨x47, h48⟩ : ∃ y, FL a1 1 = y := ⟨_, rfl⟩
    have h48l := congrArg Int64.toInt h48
    have := l_rng x47
    refine hw_get (v := .long (x47)) (aX2_meet 6 rfl) wf_RX2_92 ha1l ha1s (by decide) (congrArg Value.long (show FL a1 1 = x47 from h48)) ?_
    refine hw_callV (Bs := [.int ((2 : Int32)), .long (x47)]) (rest := []) (aX2_meet 7 rfl) wc_RX2_96 (by decide) rfl wi_yX5_become wv_yX5_become (c109 hS) (s109 hS) rfl rfl rfl (Nat.le_of_ble_eq_true rfl) (Nat.le_of_ble_eq_true rfl) (k_X5_become (d := d + 300) hS hF hI hR (109) (c109 hS) (s109 hS) (Or.inl (by decide)) ((2 : Int32)) (x47) ) (fun v49 sv50 p51 => ?_)
    obtain ⟨rfl, FI53, FL54, rfl, hI55, f56, f57⟩ := p51
    show hw sk base _ _ _ _ _ [] _ _
    refine xw_goto (tgt := 114) (aX2_meet 8 rfl) (by decide) ?_
    refine xw_vret (aX2_meet 40 rfl) rfl ?_
    exact ⟨rfl, FI53, FL54, FR, rfl, hI55, (gf_tr ex_rf gf_rf f56 rfl rfl rfl), (gf_tr ex_rf gf_rf f57 rfl rfl rfl), gf_rf, hF, hR⟩
  · refine xw_tsw (tgt := 74) aX2_meet_4 (by exact Or.inr ⟨by omega, by omega, _, by rw [hsw]; rfl, by decide⟩) ?_
    refine hw_aloadn (aX2_meet 20 rfl) rfl ?_
    refine hw_get (v := .ref (base + 109)) (aX2_meet 21 rfl) wf_RX2_21 (c90 hS) (s90 hS) (by decide) (congrArg (fun r => va_rf (h_rf base r)) (r90_3 hF)) ?_
    refine hw_aloadn (aX2_meet 22 rfl) rfl ?_
    obtain ⟨o62, h63⟩ : ∃ y, FR a1 3 = y := ⟨_, rfl⟩
    have ht64 : ∀ r, o62 = some r → r < n ∧ own r ∧ SH r = (100, (SH r).2) := fun r e => gR_get hR ha1l ha1o ha1s (h63.trans e)
    refine hw_get (v := va_rf (h_rf base (o62))) (aX2_meet 23 rfl) wf_RX2_108 ha1l ha1s (by decide) (congrArg (fun r => va_rf (h_rf base r)) (show FR a1 3 = o62 from h63)) ?_
    refine hw_ic (v := (0 : Int32)) (aX2_meet 24 rfl) (by decide) ?_
    refine hw_aloadn (aX2_meet 25 rfl) rfl ?_
    refine hw_get (v := va_rf (h_rf base (o62))) (aX2_meet 26 rfl) wf_RX2_108 ha1l ha1s (by decide) (congrArg (fun r => va_rf (h_rf base r)) (show FR a1 3 = o62 from h63)) ?_
    refine xw_ifnonnull (v := h_rf base o62) (tgt := 94) (aX2_meet 27 rfl) (by decide) (fun hn65 => ?_) (fun hn65 => ?_)
    · obtain ⟨r66, rfl⟩ := h_rf_s hn65
      obtain ⟨lt67, ow68, sh69⟩ := ht64 r66 rfl
      show hw sk base _ _ _ _ [(0, .ref (base + 90)), (1, .ref (base + a1))] [.int ((0 : Int32)), .ref (base + r66), .ref (base + 109)] _ _
      refine hw_aloadn (aX2_meet 30 rfl) rfl ?_
      refine hw_get (v := .ref (base + r66)) (aX2_meet 31 rfl) wf_RX2_108 ha1l ha1s (by decide) (congrArg (fun r => va_rf (h_rf base r)) (show FR a1 3 = some r66 from h63)) ?_
      obtain ⟨x70, h71⟩ : ∃ y, Int32.ofNat (SH r66).2 = y := ⟨_, rfl⟩
      have b72 : (x70).toInt ≤ (((SH r66).2 : Nat) : Int) := by rw [← h71]; exact i_len
      have := i_rng x70
      refine hw_alen (k := 0) (v := x70) (aX2_meet 32 rfl) lt67 sh69 (by decide) h71 ?_
      refine hw_callV (Bs := [.ref (base + r66), .int ((0 : Int32)), .int (x70)]) (rest := []) (aX2_meet 33 rfl) wc_RX2_112 (by decide) rfl wi_yX5_becomeBlock wv_yX5_becomeBlock (c109 hS) (s109 hS) rfl rfl rfl (Nat.le_of_ble_eq_true rfl) (Nat.le_of_ble_eq_true rfl) (k_X5_becomeBlock (d := d + 299) hS hF hI hR (109) (c109 hS) (s109 hS) (Or.inl (by decide)) (r66) lt67 sh69 ow68 ((0 : Int32)) (x70) ) (fun v73 sv74 p75 => ?_)
      obtain ⟨rfl, FI77, FL78, FR79, rfl, hI80, f81, f82, f83, hF84, hR85⟩ := p75
      show hw sk base _ _ _ _ _ [] _ _
      refine xw_goto (tgt := 114) (aX2_meet 34 rfl) (by decide) ?_
      refine xw_vret (aX2_meet 40 rfl) rfl ?_
      exact ⟨rfl, FI77, FL78, FR79, rfl, hI80, (gf_tr ex_rf gf_rf f81 rfl rfl rfl), (gf_tr ex_rf gf_rf f82 rfl rfl rfl), (gf_tr ex_rf gf_rf f83 rfl rfl rfl), hF84, hR85⟩
    · obtain rfl := h_rf_n hn65
      show hw sk base _ _ _ _ [(0, .ref (base + 90)), (1, .ref (base + a1))] [.int ((0 : Int32)), .null, .ref (base + 109)] _ _
      refine hw_ic (v := (0 : Int32)) (aX2_meet 28 rfl) (by decide) ?_
      refine xw_goto (tgt := 99) (aX2_meet 29 rfl) (by decide) ?_
      refine hw_callV (Bs := [.null, .int ((0 : Int32)), .int ((0 : Int32))]) (rest := []) (aX2_meet 33 rfl) wc_RX2_112 (by decide) rfl wi_yX5_becomeBlock wv_yX5_becomeBlock (c109 hS) (s109 hS) rfl rfl rfl (Nat.le_of_ble_eq_true rfl) (Nat.le_of_ble_eq_true rfl) (k_becomeBlock_o (d := d + 299) hS hF hI hR (109) (c109 hS) (s109 hS) (Or.inl (by decide)) (none) (fun r e => by cases e) ((0 : Int32)) ((0 : Int32)) ) (fun v88 sv89 p90 => ?_)
      obtain ⟨rfl, FI92, FL93, FR94, rfl, hI95, f96, f97, f98, hF99, hR100⟩ := p90
      show hw sk base _ _ _ _ _ [] _ _
      refine xw_goto (tgt := 114) (aX2_meet 34 rfl) (by decide) ?_
      refine xw_vret (aX2_meet 40 rfl) rfl ?_
      exact ⟨rfl, FI92, FL93, FR94, rfl, hI95, (gf_tr ex_rf gf_rf f96 rfl rfl rfl), (gf_tr ex_rf gf_rf f97 rfl rfl rfl), (gf_tr ex_rf gf_rf f98 rfl rfl rfl), hF99, hR100⟩
def nX2_placeFor : Nat := 0xb001ceffa7010384b0321d4a00b42a0a00995200b82f1d5600b42a1f17009a5200b82f1d4e00b42a1f2a00a208101d3000a24500b42a1d3e03b032034a00b42a0a009a4500b42a
theorem bX2_placeFor : cX2_placeFor.data.toList.map UInt8.toNat = x_un nX2_placeFor 71 := by decide +kernel
def iX2_placeFor : List (Nat × Jvm.ClassFile.Instr × Nat) := [(0, .aload_n 0, 1), (1, .getfield 69, 3), (4, .ifCond .ne 10, 3), (7, .aload_n 0, 1), (8, .getfield 74, 3), (11, .iconst 0, 1), (12, .aaload, 1), (13, .areturn, 1), (14, .iconst 0, 1), (15, .istore_n 3, 1), (16, .iload_n 3, 1), (17, .aload_n 0, 1), (18, .getfield 69, 3), (21, .if_icmp .ge 48, 3), (24, .iload_n 3, 1), (25, .bipush 8, 2), (27, .if_icmp .ge 42, 3), (30, .lload_n 1, 1), (31, .aload_n 0, 1), (32, .getfield 78, 3), (35, .iload_n 3, 1), (36, .laload, 1), (37, .invokestatic 82, 3), (40, .ifCond .ne 23, 3), (43, .lload_n 1, 1), (44, .aload_n 0, 1), (45, .getfield 86, 3), (48, .iload_n 3, 1), (49, .laload, 1), (50, .invokestatic 82, 3), (53, .ifCond .eq 10, 3), (56, .aload_n 0, 1), (57, .getfield 74, 3), (60, .iload_n 3, 1), (61, .aaload, 1), (62, .areturn, 1), (63, .iinc 3 1, 3), (66, .goto (-50), 3), (69, .aconst_null, 1), (70, .areturn, 1)]
theorem dX2_placeFor : x_il nX2_placeFor 71 iX2_placeFor = true := by decide +kernel
theorem aX2_placeFor (k : Nat) {pc : Nat} {i : Jvm.ClassFile.Instr} {len : Nat} (hk : iX2_placeFor[k]? = some (pc, i, len)) : x_at xMM 28 pc i len yX2_placeFor 4 (some (.object "LocationDesk$Place")) := ⟨cX2_placeFor, rfl, x_il_ok bX2_placeFor dX2_placeFor k hk⟩
set_option maxHeartbeats 4000000 in
set_option maxRecDepth 100000 in
theorem k_X2_placeFor {sk : xK} {base d n sl : Nat} {SH : Nat → Nat × Nat} {FI : Nat → Nat → Int32} {FL : Nat → Nat → Int64} {FR : Nat → Nat → Option Nat} (hS : h_S n SH) (hF : h_FR FR) (hI : g_I FI) (hR : g_R n SH FR) (a1 : Nat) {z1 : Nat} (ha1l : a1 < n) (ha1s : SH a1 = (10, z1)) (ha1o : own a1) (a2 : Int64) (gg0 : g_Vv SH FR a1) : hw sk base (d + 1) none 28 0 [(0, .ref (base + a1)), (1, .long (a2))] [] (n, sl, SH, FI, FL, FR) (h_A base (fun r s => s = (n, sl, SH, FI, FL, FR) ∧ (∀ q, r = some q → q < n ∧ own q ∧ SH q = (6, (SH q).2)))) := by
  have rg_a2 := l_rng a2
  obtain ⟨⟨r1, h5, hz9⟩, ⟨r2, h6, hz10⟩, ⟨r3, h7, hz11⟩, ⟨r4, h8⟩⟩ := gg0
  obtain ⟨lt13, ow14, sh15⟩ := gR_get hR ha1l ha1o ha1s h5
  obtain ⟨lt16, ow17, sh18⟩ := gR_get hR ha1l ha1o ha1s h6
  obtain ⟨lt19, ow20, sh21⟩ := gR_get hR ha1l ha1o ha1s h7
  obtain ⟨lt22, ow23, sh24⟩ := gR_get hR ha1l ha1o ha1s h8
  refine hw_aloadn (aX2_placeFor 0 rfl) rfl ?_
  obtain ⟨x25, h26⟩ : ∃ y, FI a1 5 = y := ⟨_, rfl⟩
  have h26l := congrArg Int32.toInt h26
  have := i_rng x25
  refine hw_get (v := .int (x25)) (aX2_placeFor 1 rfl) wf_RX2_69 ha1l ha1s (by decide) (congrArg Value.int (show FI a1 5 = x25 from h26)) ?_
  refine hw_ifne (tgt := 14) (aX2_placeFor 2 rfl) (by decide) rfl (fun cd27 => ?_) (fun cd27 => ?_)
  · refine hw_ic (v := (0 : Int32)) (aX2_placeFor 8 rfl) (by decide) ?_
    refine xw_istoren (L2 := [(3, .int ((0 : Int32))), (0, .ref (base + a1)), (1, .long (a2))]) (aX2_placeFor 9 rfl) (by decide) rfl ?_
    have lp29 : ∀ (m : Nat) (y3 : Int32), (0 ≤ (y3).toInt ∧ (y3).toInt ≤ 8) → 8 - (y3).toInt < m → hw sk base (d + 1) none 28 16 [(3, .int (y3)), (0, .ref (base + a1)), (1, .long (a2))] [] (n, sl, SH, FI, FL, FR) (h_A base (fun r s => s = (n, sl, SH, FI, FL, FR) ∧ (∀ q, r = some q → q < n ∧ own q ∧ SH q = (6, (SH q).2)))) := by
      intro m
      induction m with
      | zero => intro y3 iv28 hm; omega
      | succ m ih =>
        intro y3 iv28 hm
        have rg_y3 := i_rng y3
        refine xw_iloadn (aX2_placeFor 10 rfl) rfl ?_
        refine hw_aloadn (aX2_placeFor 11 rfl) rfl ?_
        refine hw_get (v := .int (x25)) (aX2_placeFor 12 rfl) wf_RX2_69 ha1l ha1s (by decide) (congrArg Value.int (show FI a1 5 = x25 from h26)) ?_
        refine hw_icge (tgt := 69) (aX2_placeFor 13 rfl) (by decide) rfl rfl (fun cd30 => ?_) (fun cd30 => ?_)
        · refine xw_null (aX2_placeFor 38 rfl) ?_
          refine xw_aret (v := h_rf base (none)) (aX2_placeFor 39 rfl) rfl (by first | exact Or.inl ⟨_, rfl⟩ | exact Or.inr ⟨_, rfl⟩) ?_
          exact ⟨none, rfl, rfl, ((fun r e => by cases e))⟩
        · refine xw_iloadn (aX2_placeFor 14 rfl) rfl ?_
          refine hw_bp (v := (8 : Int32)) (aX2_placeFor 15 rfl) (by decide) ?_
          refine hw_icge (tgt := 69) (aX2_placeFor 16 rfl) (by decide) rfl (by decide : (8 : Int32).toInt = 8) (fun cd31 => ?_) (fun cd31 => ?_)
          · refine xw_null (aX2_placeFor 38 rfl) ?_
            refine xw_aret (v := h_rf base (none)) (aX2_placeFor 39 rfl) rfl (by first | exact Or.inl ⟨_, rfl⟩ | exact Or.inr ⟨_, rfl⟩) ?_
            exact ⟨none, rfl, rfl, ((fun r e => by cases e))⟩
          · refine xw_lloadn (aX2_placeFor 17 rfl) rfl ?_
            refine hw_aloadn (aX2_placeFor 18 rfl) rfl ?_
            refine hw_get (v := .ref (base + r1)) (aX2_placeFor 19 rfl) wf_RX2_78 ha1l ha1s (by decide) (congrArg (fun r => va_rf (h_rf base r)) (show FR a1 2 = some r1 from h5)) ?_
            refine xw_iloadn (aX2_placeFor 20 rfl) rfl ?_
            obtain ⟨x32, h33⟩ : ∃ y, FL r1 (y3).toNatClampNeg = y := ⟨_, rfl⟩
            have h33l := congrArg Int64.toInt h33
            have := l_rng x32
            refine hw_lald (v := x32) (aX2_placeFor 21 rfl) lt13 hz9 (h_in rfl (by omega) (by omega)) (show FL r1 (y3).toNatClampNeg = x32 from h33) ?_
            refine hw_callS (As := [.long (a2), .long (x32)]) (rest := []) (aX2_placeFor 22 rfl) wc_RX2_82 (by decide) rfl wt_yX11_isBelow rfl rfl (Nat.le_of_ble_eq_true rfl) (Nat.le_of_ble_eq_true rfl) (k_X11_isBelow (d := d) hS hF hI hR (a2) (x32) ) (fun v34 sv35 p36 => ?_)
            obtain ⟨r37, rfl, rfl, t41⟩ := p36
            show hw sk base _ _ _ _ _ [.int (r37)] _ _
            refine hw_ifne (tgt := 63) (aX2_placeFor 23 rfl) (by decide) rfl (fun cd44 => ?_) (fun cd44 => ?_)
            · obtain ⟨x45, q47⟩ : ∃ y : Int32, (y3) + Int32.ofInt (1) = y := ⟨_, rfl⟩
              have e46 : (x45).toInt = (y3).toInt + (1) := by rw [← q47]; exact i_add rfl (by decide) (by omega) (by omega)
              refine xw_iinc (L2 := [(3, .int (x45)), (0, .ref (base + a1)), (1, .long (a2))]) (aX2_placeFor 36 rfl) rfl (by decide) (by rw [q47]; rfl) ?_
              refine xw_goto (tgt := 16) (aX2_placeFor 37 rfl) (by decide) ?_
              exact hw_L (ih (x45) (by have := (e46 : (x45).toInt = (y3).toInt + (1)); omega) (by have := (e46 : (x45).toInt = (y3).toInt + (1)); omega)) ⟨rfl, rfl, rfl, trivial⟩
            · refine xw_lloadn (aX2_placeFor 24 rfl) rfl ?_
              refine hw_aloadn (aX2_placeFor 25 rfl) rfl ?_
              refine hw_get (v := .ref (base + r2)) (aX2_placeFor 26 rfl) wf_RX2_86 ha1l ha1s (by decide) (congrArg (fun r => va_rf (h_rf base r)) (show FR a1 3 = some r2 from h6)) ?_
              refine xw_iloadn (aX2_placeFor 27 rfl) rfl ?_
              obtain ⟨x48, h49⟩ : ∃ y, FL r2 (y3).toNatClampNeg = y := ⟨_, rfl⟩
              have h49l := congrArg Int64.toInt h49
              have := l_rng x48
              refine hw_lald (v := x48) (aX2_placeFor 28 rfl) lt16 hz10 (h_in rfl (by omega) (by omega)) (show FL r2 (y3).toNatClampNeg = x48 from h49) ?_
              refine hw_callS (As := [.long (a2), .long (x48)]) (rest := []) (aX2_placeFor 29 rfl) wc_RX2_82 (by decide) rfl wt_yX11_isBelow rfl rfl (Nat.le_of_ble_eq_true rfl) (Nat.le_of_ble_eq_true rfl) (k_X11_isBelow (d := d) hS hF hI hR (a2) (x48) ) (fun v50 sv51 p52 => ?_)
              obtain ⟨r53, rfl, rfl, t57⟩ := p52
              show hw sk base _ _ _ _ _ [.int (r53)] _ _
              refine hw_ifeq (tgt := 63) (aX2_placeFor 30 rfl) (by decide) rfl (fun cd60 => ?_) (fun cd60 => ?_)
              · obtain ⟨x61, q63⟩ : ∃ y : Int32, (y3) + Int32.ofInt (1) = y := ⟨_, rfl⟩
                have e62 : (x61).toInt = (y3).toInt + (1) := by rw [← q63]; exact i_add rfl (by decide) (by omega) (by omega)
                refine xw_iinc (L2 := [(3, .int (x61)), (0, .ref (base + a1)), (1, .long (a2))]) (aX2_placeFor 36 rfl) rfl (by decide) (by rw [q63]; rfl) ?_
                refine xw_goto (tgt := 16) (aX2_placeFor 37 rfl) (by decide) ?_
                exact hw_L (ih (x61) (by have := (e62 : (x61).toInt = (y3).toInt + (1)); omega) (by have := (e62 : (x61).toInt = (y3).toInt + (1)); omega)) ⟨rfl, rfl, rfl, trivial⟩
              · refine hw_aloadn (aX2_placeFor 31 rfl) rfl ?_
                refine hw_get (v := .ref (base + r3)) (aX2_placeFor 32 rfl) wf_RX2_74 ha1l ha1s (by decide) (congrArg (fun r => va_rf (h_rf base r)) (show FR a1 4 = some r3 from h7)) ?_
                refine xw_iloadn (aX2_placeFor 33 rfl) rfl ?_
                obtain ⟨o64, h65⟩ : ∃ y, FR r3 (y3).toNatClampNeg = y := ⟨_, rfl⟩
                have ht66 : ∀ r, o64 = some r → r < n ∧ own r ∧ SH r = (6, (SH r).2) := fun r e => gR_get hR lt19 ow20 hz11 (h65.trans e)
                refine hw_aald (k := 5) (v := o64) (aX2_placeFor 34 rfl) lt19 hz11 (by decide) (by decide) (h_in rfl (by omega) (by omega)) (show FR r3 (y3).toNatClampNeg = o64 from h65) ?_
                refine xw_aret (v := h_rf base (o64)) (aX2_placeFor 35 rfl) rfl (by first | exact Or.inl ⟨_, rfl⟩ | exact Or.inr ⟨_, rfl⟩) ?_
                exact ⟨o64, rfl, rfl, (ht66)⟩
    exact hw_L (lp29 ((8 - 0 : Int).toNat + 1) ((0 : Int32)) (by have := ((by decide : (0 : Int32).toInt = 0) : ((0 : Int32)).toInt = 0); omega) (by have := ((by decide : (0 : Int32).toInt = 0) : ((0 : Int32)).toInt = 0); omega)) ⟨rfl, rfl, rfl, trivial⟩
  · refine hw_aloadn (aX2_placeFor 3 rfl) rfl ?_
    refine hw_get (v := .ref (base + r3)) (aX2_placeFor 4 rfl) wf_RX2_74 ha1l ha1s (by decide) (congrArg (fun r => va_rf (h_rf base r)) (show FR a1 4 = some r3 from h7)) ?_
    refine hw_ic (v := (0 : Int32)) (aX2_placeFor 5 rfl) (by decide) ?_
    obtain ⟨o67, h68⟩ : ∃ y, FR r3 ((0 : Int32)).toNatClampNeg = y := ⟨_, rfl⟩
    have ht69 : ∀ r, o67 = some r → r < n ∧ own r ∧ SH r = (6, (SH r).2) := fun r e => gR_get hR lt19 ow20 hz11 (h68.trans e)
    refine hw_aald (k := 5) (v := o67) (aX2_placeFor 6 rfl) lt19 hz11 (by decide) (by decide) (h_in (by decide : (0 : Int32).toInt = 0) (by omega) (by omega)) (show FR r3 ((0 : Int32)).toNatClampNeg = o67 from h68) ?_
    refine xw_aret (v := h_rf base (o67)) (aX2_placeFor 7 rfl) rfl (by first | exact Or.inl ⟨_, rfl⟩ | exact Or.inr ⟨_, rfl⟩) ?_
    exact ⟨o67, rfl, rfl, (ht69)⟩
def nX2_say : Nat := 0xac2100b42ab9ffa7053a4100b405193d00b6036808103000b405191500b42a0c00b42a1700a73900b61500b42a3500b60c00b42a1400a0023000b405192c00b605192a41009a2100b42a4800c60519053a0419043a2800b8202b2500b60c00b42a2100b5032a
theorem bX2_say : cX2_say.data.toList.map UInt8.toNat = x_un nX2_say 102 := by decide +kernel
def iX2_say : List (Nat × Jvm.ClassFile.Instr × Nat) := [(0, .aload_n 0, 1), (1, .iconst 0, 1), (2, .putfield 33, 3), (5, .aload_n 0, 1), (6, .getfield 12, 3), (9, .invokevirtual 37, 3), (12, .aload_n 1, 1), (13, .lload_n 2, 1), (14, .invokestatic 40, 3), (17, .astore 4, 2), (19, .aload 4, 2), (21, .astore 5, 2), (23, .aload 5, 2), (25, .ifnull 72, 3), (28, .aload_n 0, 1), (29, .getfield 33, 3), (32, .ifCond .ne 65, 3), (35, .aload_n 0, 1), (36, .aload 5, 2), (38, .invokevirtual 44, 3), (41, .aload 5, 2), (43, .getfield 48, 3), (46, .iconst (-1), 1), (47, .if_icmp .ne 20, 3), (50, .aload_n 0, 1), (51, .getfield 12, 3), (54, .invokevirtual 53, 3), (57, .aload_n 0, 1), (58, .getfield 21, 3), (61, .invokevirtual 57, 3), (64, .goto 23, 3), (67, .aload_n 0, 1), (68, .getfield 12, 3), (71, .aload_n 0, 1), (72, .getfield 21, 3), (75, .aload 5, 2), (77, .getfield 48, 3), (80, .bipush 8, 2), (82, .imul, 1), (83, .iconst 0, 1), (84, .invokevirtual 61, 3), (87, .aload 5, 2), (89, .getfield 65, 3), (92, .astore 5, 2), (94, .goto (-71), 3), (97, .aload_n 0, 1), (98, .getfield 33, 3), (101, .ireturn, 1)]
theorem dX2_say : x_il nX2_say 102 iX2_say = true := by decide +kernel
theorem aX2_say (k : Nat) {pc : Nat} {i : Jvm.ClassFile.Instr} {len : Nat} (hk : iX2_say[k]? = some (pc, i, len)) : x_at xMM 27 pc i len yX2_say 6 (some .int) := ⟨cX2_say, rfl, x_il_ok bX2_say dX2_say k hk⟩
set_option maxHeartbeats 4000000 in
set_option maxRecDepth 100000 in
theorem k_X2_say {sk : xK} {base d n sl : Nat} {SH : Nat → Nat × Nat} {FI : Nat → Nat → Int32} {FL : Nat → Nat → Int64} {FR : Nat → Nat → Option Nat} (hS : h_S n SH) (hF : h_FR FR) (hI : g_I FI) (hR : g_R n SH FR) (a1 : Nat) {z1 : Nat} (ha1l : a1 < n) (ha1s : SH a1 = (10, z1)) (ha1o : own a1) (a2 : Int64) (gp : Nat → Nat) (gw : Nat → Nat) (gs : Nat → Nat) (gg0 : g_T n SH FI FR gp gw gs) (gg1 : g_Vv SH FR a1) : hw sk base (d + 302) none 27 0 [(0, .ref (base + 90)), (1, .ref (base + a1)), (2, .long (a2))] [] (n, sl, SH, FI, FL, FR) (h_I (fun r s => ∃ FI' FL' FR', s = (n, sl, SH, FI', FL', FR') ∧ g_I FI' ∧ g_fr n (shd SH) [(48, 5), (48, 6), (48, 7), (48, 8), (48, 9), (48, 10), (48, 11), (49, 5), (49, 6), (49, 7), (49, 8), (49, 9), (49, 10), (49, 11), (90, 4)] [] [5, 8, 9] FI FI' ∧ g_fr n (shd SH) [(48, 12), (48, 13), (48, 14), (48, 15), (49, 12), (49, 13), (49, 14), (49, 15)] [] [5, 9, 101] FL FL' ∧ g_fr n (shd SH) [] [] [5] FR FR' ∧ h_FR FR' ∧ g_R n SH FR')) := by
  have rg_a2 := l_rng a2
  refine hw_aloadn (aX2_say 0 rfl) rfl ?_
  refine hw_ic (v := (0 : Int32)) (aX2_say 1 rfl) (by decide) ?_
  refine hv_puti (aX2_say 2 rfl) wf_RX2_33 (c90 hS) (s90 hS) (by decide) rfl rfl (fun FI1 u2 => ?_)
  have hI3 : g_I FI1 := gU_F hI u2 rfl
  refine hw_aloadn (aX2_say 3 rfl) rfl ?_
  refine hw_get (v := .ref (base + 91)) (aX2_say 4 rfl) wf_RX2_12 (c90 hS) (s90 hS) (by decide) (congrArg (fun r => va_rf (h_rf base r)) (r90_2 hF)) ?_
  refine hw_callV (Bs := []) (rest := []) (aX2_say 5 rfl) wc_RX2_37 (by decide) rfl wi_yX8_clear wv_yX8_clear (c91 hS) (s91 hS) rfl rfl rfl (Nat.le_of_ble_eq_true rfl) (Nat.le_of_ble_eq_true rfl) (k_X8_clear (d := d + 300) hS hF hI3 hR (91) (c91 hS) (s91 hS) (Or.inl (by decide)) ) (fun v4 sv5 p6 => ?_)
  obtain ⟨rfl, FI8, FL9, rfl, hI10, f11, f12⟩ := p6
  show hw sk base _ _ _ _ _ [] _ _
  refine hw_aloadn (aX2_say 6 rfl) rfl ?_
  refine xw_lloadn (aX2_say 7 rfl) rfl ?_
  refine hw_callS (As := [.ref (base + a1), .long (a2)]) (rest := []) (aX2_say 8 rfl) wc_RX2_40 (by decide) rfl wt_yX2_placeFor rfl rfl (Nat.le_of_ble_eq_true rfl) (Nat.le_of_ble_eq_true rfl) (k_X2_placeFor (d := d + 300) hS hF hI10 hR (a1) ha1l ha1s ha1o (a2) (gV_mw (L2 := []) (A2 := []) (T2 := [5]) hS gg1 ha1l (by rw [ha1s]) gf_rf (by decide))) (fun v17 sv18 p19 => ?_)
  obtain ⟨r20, rfl, rfl, ht24⟩ := p19
  show hw sk base _ _ _ _ _ [va_rf (h_rf base (r20))] _ _
  refine xw_astore (L2 := [(4, va_rf (h_rf base (r20))), (0, .ref (base + 90)), (1, .ref (base + a1)), (2, .long (a2))]) (aX2_say 9 rfl) (by decide) (by first | rfl | simp [x_s1, x_s2, va_cat, va_ci, va_cl, va_cr, va_cn] | (simp [x_s1, x_s2, va_cat, va_ci, va_cl, va_cr, va_cn]; decide)) ?_
  refine xw_aload (aX2_say 10 rfl) rfl ?_
  refine xw_astore (L2 := [(5, va_rf (h_rf base (r20))), (4, va_rf (h_rf base (r20))), (0, .ref (base + 90)), (1, .ref (base + a1)), (2, .long (a2))]) (aX2_say 11 rfl) (by decide) (by first | rfl | simp [x_s1, x_s2, va_cat, va_ci, va_cl, va_cr, va_cn] | (simp [x_s1, x_s2, va_cat, va_ci, va_cl, va_cr, va_cn]; decide)) ?_
  have lp36 : ∀ (m : Nat) (y5 : Option Nat) (FIv27 : Nat → Nat → Int32) (FLv28 : Nat → Nat → Int64) (FRv29 : Nat → Nat → Option Nat), (∀ q, y5 = some q → q < n ∧ own q ∧ SH q = (6, (SH q).2)) → (g_fr n (shd SH) [(48, 5), (48, 6), (48, 7), (48, 8), (48, 9), (48, 10), (48, 11), (49, 5), (49, 6), (49, 7), (49, 8), (49, 9), (49, 10), (49, 11), (90, 4)] [] [5, 8, 9] FI FIv27) → (g_fr n (shd SH) [(48, 12), (48, 13), (48, 14), (48, 15), (49, 12), (49, 13), (49, 14), (49, 15)] [] [5, 9, 101] FL FLv28) → (g_fr n (shd SH) [] [] [5] FR FRv29) → (g_I FIv27) → (h_FR FRv29) → (g_R n SH FRv29) → ((g_ms gs 200000000 (y5) : Nat) : Int) < m → hw sk base (d + 302) none 27 23 [(5, va_rf (h_rf base (y5))), (0, .ref (base + 90))] [] (n, sl, SH, FIv27, FLv28, FRv29) (h_I (fun r s => ∃ FI' FL' FR', s = (n, sl, SH, FI', FL', FR') ∧ g_I FI' ∧ g_fr n (shd SH) [(48, 5), (48, 6), (48, 7), (48, 8), (48, 9), (48, 10), (48, 11), (49, 5), (49, 6), (49, 7), (49, 8), (49, 9), (49, 10), (49, 11), (90, 4)] [] [5, 8, 9] FI FI' ∧ g_fr n (shd SH) [(48, 12), (48, 13), (48, 14), (48, 15), (49, 12), (49, 13), (49, 14), (49, 15)] [] [5, 9, 101] FL FL' ∧ g_fr n (shd SH) [] [] [5] FR FR' ∧ h_FR FR' ∧ g_R n SH FR')) := by
    intro m
    induction m with
    | zero => intro y5 FIv27 FLv28 FRv29 ty26 fr30 fr31 fr32 hI33 hF34 hR35 hm; omega
    | succ m ih =>
      intro y5 FIv27 FLv28 FRv29 ty26 fr30 fr31 fr32 hI33 hF34 hR35 hm
      refine xw_aload (aX2_say 12 rfl) rfl ?_
      refine xw_ifnull (v := h_rf base y5) (tgt := 97) (aX2_say 13 rfl) (by decide) (fun hn37 => ?_) (fun hn37 => ?_)
      · obtain rfl := h_rf_n hn37
        show hw sk base _ _ _ _ [(5, .null), (0, .ref (base + 90))] [] _ _
        refine hw_aloadn (aX2_say 45 rfl) rfl ?_
        obtain ⟨x38, h39⟩ : ∃ y, FIv27 90 4 = y := ⟨_, rfl⟩
        have h39l := congrArg Int32.toInt h39
        have := i_rng x38
        refine hw_get (v := .int (x38)) (aX2_say 46 rfl) wf_RX2_33 (c90 hS) (s90 hS) (by decide) (congrArg Value.int (show FIv27 90 4 = x38 from h39)) ?_
        refine xw_iret (aX2_say 47 rfl) rfl rfl ?_
        exact ⟨x38, rfl, FIv27, FLv28, FRv29, rfl, hI33, fr30, fr31, fr32, hF34, hR35⟩
      · obtain ⟨r40, rfl⟩ := h_rf_s hn37
        obtain ⟨lt41, ow42, sh43⟩ := ty26 r40 rfl
        show hw sk base _ _ _ _ [(5, .ref (base + r40)), (0, .ref (base + 90))] [] _ _
        have hm3 := gT_m (gT_mw (L := [(48, 5), (48, 6), (48, 7), (48, 8), (48, 9), (48, 10), (48, 11), (49, 5), (49, 6), (49, 7), (49, 8), (49, 9), (49, 10), (49, 11), (90, 4)]) (A := []) (T := [5, 8, 9]) (L2 := []) (A2 := []) (T2 := [5]) hS gg0 fr30 fr32 (by decide) (by decide)) lt41 sh43
        have he3 := gT_e (gT_mw (L := [(48, 5), (48, 6), (48, 7), (48, 8), (48, 9), (48, 10), (48, 11), (49, 5), (49, 6), (49, 7), (49, 8), (49, 9), (49, 10), (49, 11), (90, 4)]) (A := []) (T := [5, 8, 9]) (L2 := []) (A2 := []) (T2 := [5]) hS gg0 fr30 fr32 (by decide) (by decide)) lt41 sh43 rfl
        refine hw_aloadn (aX2_say 14 rfl) rfl ?_
        obtain ⟨x44, h45⟩ : ∃ y, FIv27 90 4 = y := ⟨_, rfl⟩
        have h45l := congrArg Int32.toInt h45
        have := i_rng x44
        refine hw_get (v := .int (x44)) (aX2_say 15 rfl) wf_RX2_33 (c90 hS) (s90 hS) (by decide) (congrArg Value.int (show FIv27 90 4 = x44 from h45)) ?_
        refine hw_ifne (tgt := 97) (aX2_say 16 rfl) (by decide) rfl (fun cd46 => ?_) (fun cd46 => ?_)
        · refine hw_aloadn (aX2_say 45 rfl) rfl ?_
          refine hw_get (v := .int (x44)) (aX2_say 46 rfl) wf_RX2_33 (c90 hS) (s90 hS) (by decide) (congrArg Value.int (show FIv27 90 4 = x44 from h45)) ?_
          refine xw_iret (aX2_say 47 rfl) rfl rfl ?_
          exact ⟨x44, rfl, FIv27, FLv28, FRv29, rfl, hI33, fr30, fr31, fr32, hF34, hR35⟩
        · refine hw_aloadn (aX2_say 17 rfl) rfl ?_
          refine hw_aload (aX2_say 18 rfl) rfl ?_
          refine hw_callV (Bs := [.ref (base + r40)]) (rest := []) (aX2_say 19 rfl) wc_RX2_44 (by decide) rfl wi_yX2_meet wv_yX2_meet (c90 hS) (s90 hS) rfl rfl rfl (Nat.le_of_ble_eq_true rfl) (Nat.le_of_ble_eq_true rfl) (k_X2_meet (d := d) hS hF34 hI33 hR35 (r40) lt41 sh43 ow42 (gp) (gw) (gs) ((gT_mw (L := [(48, 5), (48, 6), (48, 7), (48, 8), (48, 9), (48, 10), (48, 11), (49, 5), (49, 6), (49, 7), (49, 8), (49, 9), (49, 10), (49, 11), (90, 4)]) (A := []) (T := [5, 8, 9]) (L2 := []) (A2 := []) (T2 := [5]) hS gg0 fr30 fr32 (by decide) (by decide)))) (fun v47 sv48 p49 => ?_)
          obtain ⟨rfl, FI51, FL52, FR53, rfl, hI54, f55, f56, f57, hF58, hR59⟩ := p49
          show hw sk base _ _ _ _ _ [] _ _
          refine hw_aload (aX2_say 20 rfl) rfl ?_
          obtain ⟨x62, h63⟩ : ∃ y, FI51 r40 4 = y := ⟨_, rfl⟩
          have h63l := congrArg Int32.toInt h63
          have := i_rng x62
          refine hw_get (v := .int (x62)) (aX2_say 21 rfl) wf_RX2_48 lt41 sh43 (by decide) (congrArg Value.int (show FI51 r40 4 = x62 from h63)) ?_
          refine hw_ic (v := ((-1) : Int32)) (aX2_say 22 rfl) (by decide) ?_
          refine hw_icne (tgt := 67) (aX2_say 23 rfl) (by decide) rfl (by decide : ((-1) : Int32).toInt = (-1)) (fun cd64 => ?_) (fun cd64 => ?_)
          · refine hw_aloadn (aX2_say 31 rfl) rfl ?_
            refine hw_get (v := .ref (base + 91)) (aX2_say 32 rfl) wf_RX2_12 (c90 hS) (s90 hS) (by decide) (congrArg (fun r => va_rf (h_rf base r)) (r90_2 hF58)) ?_
            refine hw_aloadn (aX2_say 33 rfl) rfl ?_
            refine hw_get (v := .ref (base + 109)) (aX2_say 34 rfl) wf_RX2_21 (c90 hS) (s90 hS) (by decide) (congrArg (fun r => va_rf (h_rf base r)) (r90_3 hF58)) ?_
            refine hw_aload (aX2_say 35 rfl) rfl ?_
            refine hw_get (v := .int (x62)) (aX2_say 36 rfl) wf_RX2_48 lt41 sh43 (by decide) (congrArg Value.int (show FI51 r40 4 = x62 from h63)) ?_
            refine hw_bp (v := (8 : Int32)) (aX2_say 37 rfl) (by decide) ?_
            refine xw_imul (aX2_say 38 rfl) ?_
            refine hw_ti (fun x65 => ?_)
            have b66 := i_rng x65
            refine hw_ic (v := (0 : Int32)) (aX2_say 39 rfl) (by decide) ?_
            refine hw_callV (Bs := [.ref (base + 109), .int (x65), .int ((0 : Int32))]) (rest := []) (aX2_say 40 rfl) wc_RX2_61 (by decide) rfl wi_yX8_addPiece wv_yX8_addPiece (c91 hS) (s91 hS) rfl rfl rfl (Nat.le_of_ble_eq_true rfl) (Nat.le_of_ble_eq_true rfl) (k_X8_addPiece (d := d + 300) hS hF58 hI54 hR59 (91) (c91 hS) (s91 hS) (Or.inl (by decide)) (109) (c109 hS) (s109 hS) (Or.inl (by decide)) (x65) ((0 : Int32)) ) (fun v67 sv68 p69 => ?_)
            obtain ⟨rfl, FI71, FL72, FR73, rfl, hI74, f75, f76, f77, hF78, hR79⟩ := p69
            show hw sk base _ _ _ _ _ [] _ _
            refine hw_aload (aX2_say 41 rfl) rfl ?_
            obtain ⟨o82, h83⟩ : ∃ y, FR73 r40 5 = y := ⟨_, rfl⟩
            have ht84 : ∀ r, o82 = some r → r < n ∧ own r ∧ SH r = (6, (SH r).2) := fun r e => gR_get hR79 lt41 ow42 sh43 (h83.trans e)
            refine hw_get (v := va_rf (h_rf base (o82))) (aX2_say 42 rfl) wf_RX2_65 lt41 sh43 (by decide) (congrArg (fun r => va_rf (h_rf base r)) (show FR73 r40 5 = o82 from h83)) ?_
            refine xw_astore (L2 := [(5, va_rf (h_rf base (o82))), (0, .ref (base + 90))]) (aX2_say 43 rfl) (by decide) (by first | rfl | simp [x_s1, x_s2, va_cat, va_ci, va_cl, va_cr, va_cn] | (simp [x_s1, x_s2, va_cat, va_ci, va_cl, va_cr, va_cn]; decide)) ?_
            refine xw_goto (tgt := 23) (aX2_say 44 rfl) (by decide) ?_
            exact hw_L (ih (o82) FI71 FL72 FR73 (ht84) (gf_tr ex_rf (gf_tr ex_rf fr30 f55 rfl rfl rfl) f75 rfl rfl rfl) (gf_tr ex_rf (gf_tr ex_rf fr31 f56 rfl rfl rfl) f76 rfl rfl rfl) (gf_tr ex_rf (gf_tr ex_rf fr32 f57 rfl rfl rfl) f77 rfl rfl rfl) hI74 hF78 hR79 (by rcases hq : (o82) with _ | q9; { simp only [g_ms] at hm ⊢; omega }; { have q8 := gT_l (gT_mw (L := [(48, 5), (48, 6), (48, 7), (48, 8), (48, 9), (48, 10), (48, 11), (49, 5), (49, 6), (49, 7), (49, 8), (49, 9), (49, 10), (49, 11), (90, 4)]) (A := []) (T := [5, 8, 9]) (L2 := []) (A2 := []) (T2 := [5]) hS gg0 (gf_tr ex_rf (gf_tr ex_rf fr30 f55 rfl rfl rfl) f75 rfl rfl rfl) (gf_tr ex_rf (gf_tr ex_rf fr32 f57 rfl rfl rfl) f77 rfl rfl rfl) (by decide) (by decide)) lt41 sh43 (r := q9) ((show FR73 r40 5 = o82 from h83).trans hq); simp only [g_ms] at hm ⊢; omega })) ⟨rfl, rfl, trivial⟩
          · refine hw_aloadn (aX2_say 24 rfl) rfl ?_
            refine hw_get (v := .ref (base + 91)) (aX2_say 25 rfl) wf_RX2_12 (c90 hS) (s90 hS) (by decide) (congrArg (fun r => va_rf (h_rf base r)) (r90_2 hF58)) ?_
            refine hw_callV (Bs := []) (rest := []) (aX2_say 26 rfl) wc_RX2_53 (by decide) rfl wi_yX8_only wv_yX8_only (c91 hS) (s91 hS) rfl rfl rfl (Nat.le_of_ble_eq_true rfl) (Nat.le_of_ble_eq_true rfl) (k_X8_only (d := d + 301) hS hF58 hI54 hR59 (91) (c91 hS) (s91 hS) (Or.inl (by decide)) ) (fun v85 sv86 p87 => ?_)
            obtain ⟨r88, rfl, rfl, ht92, nn93⟩ := p87
            obtain ⟨r94, rfl⟩ : ∃ q, r88 = some q := Option.ne_none_iff_exists'.mp nn93
            obtain ⟨lt95, ow96, sh97⟩ := ht92 r94 rfl
            show hw sk base _ _ _ _ _ [.ref (base + r94)] _ _
            refine hw_aloadn (aX2_say 27 rfl) rfl ?_
            refine hw_get (v := .ref (base + 109)) (aX2_say 28 rfl) wf_RX2_21 (c90 hS) (s90 hS) (by decide) (congrArg (fun r => va_rf (h_rf base r)) (r90_3 hF58)) ?_
            refine hw_callV (Bs := [.ref (base + 109)]) (rest := []) (aX2_say 29 rfl) wc_RX2_57 (by decide) rfl wi_yX5_take wv_yX5_take lt95 sh97 rfl rfl rfl (Nat.le_of_ble_eq_true rfl) (Nat.le_of_ble_eq_true rfl) (k_X5_take (d := d + 301) hS hF58 hI54 hR59 (r94) lt95 sh97 ow96 (109) (c109 hS) (s109 hS) (Or.inl (by decide)) ) (fun v98 sv99 p100 => ?_)
            obtain ⟨rfl, FI102, FL103, FR104, rfl, hI105, f106, f107, f108, hF109, hR110⟩ := p100
            show hw sk base _ _ _ _ _ [] _ _
            refine xw_goto (tgt := 87) (aX2_say 30 rfl) (by decide) ?_
            refine hw_aload (aX2_say 41 rfl) rfl ?_
            obtain ⟨o113, h114⟩ : ∃ y, FR104 r40 5 = y := ⟨_, rfl⟩
            have ht115 : ∀ r, o113 = some r → r < n ∧ own r ∧ SH r = (6, (SH r).2) := fun r e => gR_get hR110 lt41 ow42 sh43 (h114.trans e)
            refine hw_get (v := va_rf (h_rf base (o113))) (aX2_say 42 rfl) wf_RX2_65 lt41 sh43 (by decide) (congrArg (fun r => va_rf (h_rf base r)) (show FR104 r40 5 = o113 from h114)) ?_
            refine xw_astore (L2 := [(5, va_rf (h_rf base (o113))), (0, .ref (base + 90))]) (aX2_say 43 rfl) (by decide) (by first | rfl | simp [x_s1, x_s2, va_cat, va_ci, va_cl, va_cr, va_cn] | (simp [x_s1, x_s2, va_cat, va_ci, va_cl, va_cr, va_cn]; decide)) ?_
            refine xw_goto (tgt := 23) (aX2_say 44 rfl) (by decide) ?_
            exact hw_L (ih (o113) FI102 FL103 FR104 (ht115) (gf_tr ex_rf (gf_tr ex_rf fr30 f55 rfl rfl rfl) f106 rfl rfl rfl) (gf_tr ex_rf (gf_tr ex_rf fr31 f56 rfl rfl rfl) f107 rfl rfl rfl) (gf_tr ex_rf (gf_tr ex_rf fr32 f57 rfl rfl rfl) f108 rfl rfl rfl) hI105 hF109 hR110 (by rcases hq : (o113) with _ | q9; { simp only [g_ms] at hm ⊢; omega }; { have q8 := gT_l (gT_mw (L := [(48, 5), (48, 6), (48, 7), (48, 8), (48, 9), (48, 10), (48, 11), (49, 5), (49, 6), (49, 7), (49, 8), (49, 9), (49, 10), (49, 11), (90, 4)]) (A := []) (T := [5, 8, 9]) (L2 := []) (A2 := []) (T2 := [5]) hS gg0 (gf_tr ex_rf (gf_tr ex_rf fr30 f55 rfl rfl rfl) f106 rfl rfl rfl) (gf_tr ex_rf (gf_tr ex_rf fr32 f57 rfl rfl rfl) f108 rfl rfl rfl) (by decide) (by decide)) lt41 sh43 (r := q9) ((show FR104 r40 5 = o113 from h114).trans hq); simp only [g_ms] at hm ⊢; omega })) ⟨rfl, rfl, trivial⟩
  exact hw_L (lp36 ((((g_ms gs 200000000 (r20) : Nat) : Int) : Int).toNat + 1) (r20) FI8 FL9 FR (ht24) (gf_tr ex_rf (gf_f gf_rf u2 (by decide)) f11 rfl rfl rfl) (gf_tr ex_rf gf_rf f12 rfl rfl rfl) gf_rf hI10 hF hR (by omega)) ⟨rfl, rfl, trivial⟩
