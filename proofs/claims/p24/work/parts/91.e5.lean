section
def nX2_meet : Nat := 0xb16000b609031500b42a0c00a77000b6be6c00b42b0800a7030700c76c00b42b036c00b42b1500b42a2b00a76000b66800b6036400b42b2a5900b42b1500b42a4200a76000b65c00b42b051500b42a460000002f000000200000002f000000040000000100000065000000000000aa5900b42b
theorem bX2_meet : cX2_meet.data.toList.map UInt8.toNat = x_un nX2_meet 115 := by decide +kernel
def iX2_meet : List (Nat × Jvm.ClassFile.Instr × Nat) := [(0, .aload_n 1, 1), (1, .getfield 89, 3), (36, .aload_n 0, 1), (37, .getfield 21, 3), (40, .iconst 2, 1), (41, .aload_n 1, 1), (42, .getfield 92, 3), (45, .invokevirtual 96, 3), (48, .goto 66, 3), (51, .aload_n 0, 1), (52, .getfield 21, 3), (55, .aload_n 1, 1), (56, .getfield 89, 3), (59, .aload_n 0, 1), (60, .aload_n 1, 1), (61, .getfield 100, 3), (64, .iconst 0, 1), (65, .invokevirtual 104, 3), (68, .invokevirtual 96, 3), (71, .goto 43, 3), (74, .aload_n 0, 1), (75, .getfield 21, 3), (78, .aload_n 1, 1), (79, .getfield 108, 3), (82, .iconst 0, 1), (83, .aload_n 1, 1), (84, .getfield 108, 3), (87, .ifnonnull 7, 3), (90, .iconst 0, 1), (91, .goto 8, 3), (94, .aload_n 1, 1), (95, .getfield 108, 3), (98, .arraylength, 1), (99, .invokevirtual 112, 3), (102, .goto 12, 3), (105, .aload_n 0, 1), (106, .getfield 21, 3), (109, .iconst 0, 1), (110, .lconst 0, 1), (111, .invokevirtual 96, 3), (114, .return_, 1)]
theorem dX2_meet : x_il nX2_meet 115 iX2_meet = true := by decide +kernel
theorem aX2_meet (k : Nat) {pc : Nat} {i : Jvm.ClassFile.Instr} {len : Nat} (hk : iX2_meet[k]? = some (pc, i, len)) : x_at xMM 29 pc i len yX2_meet 2 none := ⟨cX2_meet, rfl, x_il_ok bX2_meet dX2_meet k hk⟩
theorem aX2_meet_4 : x_at xMM 29 4 (.tableswitch 101 1 4 #[47, 32, 47, 70]) 32 yX2_meet 2 none := ⟨cX2_meet, rfl, by decide +kernel⟩
set_option maxHeartbeats 4000000 in
set_option maxRecDepth 100000 in
theorem k_X2_meet {sk : xK} {base d n sl : Nat} {SH : Nat → Nat × Nat} {FI : Nat → Nat → Int32} {FL : Nat → Nat → Int64} {FR : Nat → Nat → Option Nat} (hS : h_S n SH) (hF : h_FR FR) (hI : g_I FI) (hR : g_R n SH FR) (a1 : Nat) {z1 : Nat} (ha1l : a1 < n) (ha1s : SH a1 = (6, z1)) (ha1o : own a1) (gp : Nat → Nat) (gw : Nat → Nat) (gs : Nat → Nat) (gg0 : g_T n SH FI FR gp gw gs) : hw sk base (d + 301) none 29 0 [(0, .ref (base + 90)), (1, .ref (base + a1))] [] (n, sl, SH, FI, FL, FR) (h_V (fun s => ∃ FI' FL' FR', s = (n, sl, SH, FI', FL', FR') ∧ g_I FI' ∧ g_fr n (shd SH) [(48, 5), (48, 6), (48, 7), (48, 8), (48, 9), (48, 10), (48, 11), (49, 5), (49, 6), (49, 7), (49, 8), (49, 9), (49, 10), (49, 11), (90, 4)] [] [5, 8, 9] FI FI' ∧ g_fr n (shd SH) [(48, 12), (48, 13), (48, 14), (48, 15), (49, 12), (49, 13), (49, 14), (49, 15)] [] [5, 9, 101] FL FL' ∧ g_fr n (shd SH) [] [] [5] FR FR' ∧ h_FR FR' ∧ g_R n SH FR')) := by
  refine hw_aloadn (aX2_meet 0 rfl) rfl ?_
  obtain ⟨x1, h2⟩ : ∃ y, FI a1 0 = y := ⟨_, rfl⟩
  have h2l := congrArg Int32.toInt h2
  have := i_rng x1
  refine hw_get (v := .int (x1)) (aX2_meet 1 rfl) wf_RX2_89 ha1l ha1s (by decide) (congrArg Value.int (show FI a1 0 = x1 from h2)) ?_
  have hsw : ((x1).toInt < 1 ∨ 4 < (x1).toInt) ∨ ((x1).toInt = 1 ∨ (x1).toInt = 3) ∨ ((x1).toInt = 2) ∨ ((x1).toInt = 4) := by omega
  rcases hsw with hsw | hsw | hsw | hsw
  · refine xw_tsw (tgt := 105) aX2_meet_4 (Or.inl ⟨hsw, by decide⟩) ?_
    refine hw_aloadn (aX2_meet 35 rfl) rfl ?_
    refine hw_get (v := .ref (base + 109)) (aX2_meet 36 rfl) wf_RX2_21 (c90 hS) (s90 hS) (by decide) (congrArg (fun r => va_rf (h_rf base r)) (r90_3 hF)) ?_
    refine hw_ic (v := (0 : Int32)) (aX2_meet 37 rfl) (by decide) ?_
    refine hw_lc (v := (0 : Int64)) (aX2_meet 38 rfl) (by decide) ?_
    refine hw_callV (Bs := [.int ((0 : Int32)), .long ((0 : Int64))]) (rest := []) (aX2_meet 39 rfl) wc_RX2_96 (by decide) rfl wi_yX5_become wv_yX5_become (c109 hS) (s109 hS) rfl rfl rfl (Nat.le_of_ble_eq_true rfl) (Nat.le_of_ble_eq_true rfl) (k_X5_become (d := d + 300) hS hF hI hR (109) (c109 hS) (s109 hS) (Or.inl (by decide)) ((0 : Int32)) ((0 : Int64)) ) (fun v3 sv4 p5 => ?_)
    obtain ⟨rfl, FI7, FL8, rfl, hI9, f10, f11⟩ := p5
    show hw sk base _ _ _ _ _ [] _ _
    refine xw_vret (aX2_meet 40 rfl) rfl ?_
    exact ⟨rfl, FI7, FL8, FR, rfl, hI9, (gf_tr ex_rf gf_rf f10 rfl rfl rfl), (gf_tr ex_rf gf_rf f11 rfl rfl rfl), gf_rf, hF, hR⟩
  · refine xw_tsw (tgt := 51) aX2_meet_4 (by rcases hsw with hsw | hsw <;> exact Or.inr ⟨by omega, by omega, _, by rw [hsw]; rfl, by decide⟩) ?_
    refine hw_aloadn (aX2_meet 9 rfl) rfl ?_
    refine hw_get (v := .ref (base + 109)) (aX2_meet 10 rfl) wf_RX2_21 (c90 hS) (s90 hS) (by decide) (congrArg (fun r => va_rf (h_rf base r)) (r90_3 hF)) ?_
    refine hw_aloadn (aX2_meet 11 rfl) rfl ?_
    refine hw_get (v := .int (x1)) (aX2_meet 12 rfl) wf_RX2_89 ha1l ha1s (by decide) (congrArg Value.int (show FI a1 0 = x1 from h2)) ?_
    refine hw_aloadn (aX2_meet 13 rfl) rfl ?_
    refine hw_aloadn (aX2_meet 14 rfl) rfl ?_
    obtain ⟨o16, h17⟩ : ∃ y, FR a1 2 = y := ⟨_, rfl⟩
    have ht18 : ∀ r, o16 = some r → r < n ∧ own r ∧ SH r = (3, (SH r).2) := fun r e => gR_get hR ha1l ha1o ha1s (h17.trans e)
    refine hw_get (v := va_rf (h_rf base (o16))) (aX2_meet 15 rfl) wf_RX2_100 ha1l ha1s (by decide) (congrArg (fun r => va_rf (h_rf base r)) (show FR a1 2 = o16 from h17)) ?_
    refine hw_ic (v := (0 : Int32)) (aX2_meet 16 rfl) (by decide) ?_
    refine hw_callVo (Bs := [va_rf (h_rf base (o16)), .int ((0 : Int32))]) (rest := [.int (x1), .ref (base + 109)]) (L2 := [(0, .ref (base + 90)), (1, va_rf (h_rf base (o16))), (2, .int ((0 : Int32)))]) (aX2_meet 17 rfl) wc_RX2_104 (by decide) rfl wi_yX2_value wv_yX2_value (c90 hS) (s90 hS) rfl rfl rfl (Nat.le_of_ble_eq_true rfl) (by simp [lg_sl, va_cat, va_ci, va_cl, va_cr, va_cn]) (by simp [lv_args, va_cat, va_ci, va_cl, va_cr, va_cn]) (k_value (d := d) hS hF hI hR (o16) ht18 ((0 : Int32)) (gp) (gw) (gs) (by have := ((by decide : (0 : Int32).toInt = 0) : ((0 : Int32)).toInt = 0); have := ((by decide : (0 : Int32).toInt = 0) : ((0 : Int32)).toInt = 0); omega) ((gT_mw (L := [(48, 5), (48, 6), (48, 7), (48, 8), (48, 9), (48, 10), (48, 11), (49, 5), (49, 6), (49, 7), (49, 8), (49, 9), (49, 10), (49, 11), (90, 4)]) (A := []) (T := [5, 8, 9]) (L2 := []) (A2 := []) (T2 := [5]) hS gg0 gf_rf gf_rf (by decide) (by decide)))) (fun v19 sv20 p21 => ?_)
    obtain ⟨r22, rfl, FI23, FL24, FR25, rfl, hI26, f27, f28, f29, hF30, hR31⟩ := p21
    have rg_r22 := l_rng r22
    show hw sk base _ _ _ _ _ [.long (r22), .int (x1), .ref (base + 109)] _ _
    refine hw_callV (Bs := [.int (x1), .long (r22)]) (rest := []) (aX2_meet 18 rfl) wc_RX2_96 (by decide) rfl wi_yX5_become wv_yX5_become (c109 hS) (s109 hS) rfl rfl rfl (Nat.le_of_ble_eq_true rfl) (Nat.le_of_ble_eq_true rfl) (k_X5_become (d := d + 300) hS hF30 hI26 hR31 (109) (c109 hS) (s109 hS) (Or.inl (by decide)) (x1) (r22) ) (fun v34 sv35 p36 => ?_)
    obtain ⟨rfl, FI38, FL39, rfl, hI40, f41, f42⟩ := p36
    show hw sk base _ _ _ _ _ [] _ _
    refine xw_goto (tgt := 114) (aX2_meet 19 rfl) (by decide) ?_
    refine xw_vret (aX2_meet 40 rfl) rfl ?_
    exact ⟨rfl, FI38, FL39, FR25, rfl, hI40, (gf_tr ex_rf (gf_tr ex_rf gf_rf f27 rfl rfl rfl) f41 rfl rfl rfl), (gf_tr ex_rf (gf_tr ex_rf gf_rf f28 rfl rfl rfl) f42 rfl rfl rfl), (gf_tr ex_rf gf_rf f29 rfl rfl rfl), hF30, hR31⟩
  · refine xw_tsw (tgt := 36) aX2_meet_4 (by exact Or.inr ⟨by omega, by omega, _, by rw [hsw]; rfl, by decide⟩) ?_
    refine hw_aloadn (aX2_meet 2 rfl) rfl ?_
    refine hw_get (v := .ref (base + 109)) (aX2_meet 3 rfl) wf_RX2_21 (c90 hS) (s90 hS) (by decide) (congrArg (fun r => va_rf (h_rf base r)) (r90_3 hF)) ?_
    refine hw_ic (v := (2 : Int32)) (aX2_meet 4 rfl) (by decide) ?_
    refine hw_aloadn (aX2_meet 5 rfl) rfl ?_
    obtain ⟨x47, h48⟩ : ∃ y, FL a1 1 = y := ⟨_, rfl⟩
    have h48l := congrArg Int64.toInt h48
    have := l_rng x47
    refine hw_get (v := .long (x47)) (aX2_meet 6 rfl) wf_RX2_92 ha1l ha1s (by decide) (congrArg Value.long (show FL a1 1 = x47 from h48)) ?_
    refine hw_callV (Bs := [.int ((2 : Int32)), .long (x47)]) (rest := []) (aX2_meet 7 rfl) wc_RX2_96 (by decide) rfl wi_yX5_become wv_yX5_become (c109 hS) (s109 hS) rfl rfl rfl (Nat.le_of_ble_eq_true rfl) (Nat.le_of_ble_eq_true rfl) (k_X5_become (d := d + 300) hS hF hI hR (109) (c109 hS) (s109 hS) (Or.inl (by decide)) ((2 : Int32)) (x47) ) (fun v49 sv50 p51 => ?_)
    obtain ⟨rfl, FI53, FL54, rfl, hI55, f56, f57⟩ := p51
    show hw sk base _ _ _ _ _ [] _ _
    refine xw_goto (tgt := 114) (aX2_meet 8 rfl) (by decide) ?_
    refine xw_vret (aX2_meet 40 rfl) rfl ?_
    exact ⟨rfl, FI53, FL54, FR, rfl, hI55, (gf_tr ex_rf gf_rf f56 rfl rfl rfl), (gf_tr ex_rf gf_rf f57 rfl rfl rfl), gf_rf, hF, hR⟩
  · refine xw_tsw (tgt := 74) aX2_meet_4 (by exact Or.inr ⟨by omega, by omega, _, by rw [hsw]; rfl, by decide⟩) ?_
    refine hw_aloadn (aX2_meet 20 rfl) rfl ?_
    refine hw_get (v := .ref (base + 109)) (aX2_meet 21 rfl) wf_RX2_21 (c90 hS) (s90 hS) (by decide) (congrArg (fun r => va_rf (h_rf base r)) (r90_3 hF)) ?_
    refine hw_aloadn (aX2_meet 22 rfl) rfl ?_
    obtain ⟨o62, h63⟩ : ∃ y, FR a1 3 = y := ⟨_, rfl⟩
    have ht64 : ∀ r, o62 = some r → r < n ∧ own r ∧ SH r = (100, (SH r).2) := fun r e => gR_get hR ha1l ha1o ha1s (h63.trans e)
    refine hw_get (v := va_rf (h_rf base (o62))) (aX2_meet 23 rfl) wf_RX2_108 ha1l ha1s (by decide) (congrArg (fun r => va_rf (h_rf base r)) (show FR a1 3 = o62 from h63)) ?_
    refine hw_ic (v := (0 : Int32)) (aX2_meet 24 rfl) (by decide) ?_
    refine hw_aloadn (aX2_meet 25 rfl) rfl ?_
    refine hw_get (v := va_rf (h_rf base (o62))) (aX2_meet 26 rfl) wf_RX2_108 ha1l ha1s (by decide) (congrArg (fun r => va_rf (h_rf base r)) (show FR a1 3 = o62 from h63)) ?_
    refine xw_ifnonnull (v := h_rf base o62) (tgt := 94) (aX2_meet 27 rfl) (by decide) (fun hn65 => ?_) (fun hn65 => ?_)
    · obtain ⟨r66, rfl⟩ := h_rf_s hn65
      obtain ⟨lt67, ow68, sh69⟩ := ht64 r66 rfl
      show hw sk base _ _ _ _ [(0, .ref (base + 90)), (1, .ref (base + a1))] [.int ((0 : Int32)), .ref (base + r66), .ref (base + 109)] _ _
      refine hw_aloadn (aX2_meet 30 rfl) rfl ?_
      refine hw_get (v := .ref (base + r66)) (aX2_meet 31 rfl) wf_RX2_108 ha1l ha1s (by decide) (congrArg (fun r => va_rf (h_rf base r)) (show FR a1 3 = some r66 from h63)) ?_
      obtain ⟨x70, h71⟩ : ∃ y, Int32.ofNat (SH r66).2 = y := ⟨_, rfl⟩
      have b72 : (x70).toInt ≤ (((SH r66).2 : Nat) : Int) := by rw [← h71]; exact i_len
      have := i_rng x70
      refine hw_alen (k := 0) (v := x70) (aX2_meet 32 rfl) lt67 sh69 (by decide) h71 ?_
      refine hw_callV (Bs := [.ref (base + r66), .int ((0 : Int32)), .int (x70)]) (rest := []) (aX2_meet 33 rfl) wc_RX2_112 (by decide) rfl wi_yX5_becomeBlock wv_yX5_becomeBlock (c109 hS) (s109 hS) rfl rfl rfl (Nat.le_of_ble_eq_true rfl) (Nat.le_of_ble_eq_true rfl) (k_X5_becomeBlock (d := d + 299) hS hF hI hR (109) (c109 hS) (s109 hS) (Or.inl (by decide)) (r66) lt67 sh69 ow68 ((0 : Int32)) (x70) ) (fun v73 sv74 p75 => ?_)
      obtain ⟨rfl, FI77, FL78, FR79, rfl, hI80, f81, f82, f83, hF84, hR85⟩ := p75
      show hw sk base _ _ _ _ _ [] _ _
      refine xw_goto (tgt := 114) (aX2_meet 34 rfl) (by decide) ?_
      refine xw_vret (aX2_meet 40 rfl) rfl ?_
      exact ⟨rfl, FI77, FL78, FR79, rfl, hI80, (gf_tr ex_rf gf_rf f81 rfl rfl rfl), (gf_tr ex_rf gf_rf f82 rfl rfl rfl), (gf_tr ex_rf gf_rf f83 rfl rfl rfl), hF84, hR85⟩
    · obtain rfl := h_rf_n hn65
      show hw sk base _ _ _ _ [(0, .ref (base + 90)), (1, .ref (base + a1))] [.int ((0 : Int32)), .null, .ref (base + 109)] _ _
      refine hw_ic (v := (0 : Int32)) (aX2_meet 28 rfl) (by decide) ?_
      refine xw_goto (tgt := 99) (aX2_meet 29 rfl) (by decide) ?_
      refine hw_callV (Bs := [.null, .int ((0 : Int32)), .int ((0 : Int32))]) (rest := []) (aX2_meet 33 rfl) wc_RX2_112 (by decide) rfl wi_yX5_becomeBlock wv_yX5_becomeBlock (c109 hS) (s109 hS) rfl rfl rfl (Nat.le_of_ble_eq_true rfl) (Nat.le_of_ble_eq_true rfl) (k_becomeBlock_o (d := d + 299) hS hF hI hR (109) (c109 hS) (s109 hS) (Or.inl (by decide)) (none) (fun r e => by cases e) ((0 : Int32)) ((0 : Int32)) ) (fun v88 sv89 p90 => ?_)
      obtain ⟨rfl, FI92, FL93, FR94, rfl, hI95, f96, f97, f98, hF99, hR100⟩ := p90
      show hw sk base _ _ _ _ _ [] _ _
      refine xw_goto (tgt := 114) (aX2_meet 34 rfl) (by decide) ?_
      refine xw_vret (aX2_meet 40 rfl) rfl ?_
      exact ⟨rfl, FI92, FL93, FR94, rfl, hI95, (gf_tr ex_rf gf_rf f96 rfl rfl rfl), (gf_tr ex_rf gf_rf f97 rfl rfl rfl), (gf_tr ex_rf gf_rf f98 rfl rfl rfl), hF99, hR100⟩
def nX2_placeFor : Nat := 0xb001ceffa7010384b0321d4a00b42a0a00995200b82f1d5600b42a1f17009a5200b82f1d4e00b42a1f2a00a208101d3000a24500b42a1d3e03b032034a00b42a0a009a4500b42a
theorem bX2_placeFor : cX2_placeFor.data.toList.map UInt8.toNat = x_un nX2_placeFor 71 := by decide +kernel
def iX2_placeFor : List (Nat × Jvm.ClassFile.Instr × Nat) := [(0, .aload_n 0, 1), (1, .getfield 69, 3), (4, .ifCond .ne 10, 3), (7, .aload_n 0, 1), (8, .getfield 74, 3), (11, .iconst 0, 1), (12, .aaload, 1), (13, .areturn, 1), (14, .iconst 0, 1), (15, .istore_n 3, 1), (16, .iload_n 3, 1), (17, .aload_n 0, 1), (18, .getfield 69, 3), (21, .if_icmp .ge 48, 3), (24, .iload_n 3, 1), (25, .bipush 8, 2), (27, .if_icmp .ge 42, 3), (30, .lload_n 1, 1), (31, .aload_n 0, 1), (32, .getfield 78, 3), (35, .iload_n 3, 1), (36, .laload, 1), (37, .invokestatic 82, 3), (40, .ifCond .ne 23, 3), (43, .lload_n 1, 1), (44, .aload_n 0, 1), (45, .getfield 86, 3), (48, .iload_n 3, 1), (49, .laload, 1), (50, .invokestatic 82, 3), (53, .ifCond .eq 10, 3), (56, .aload_n 0, 1), (57, .getfield 74, 3), (60, .iload_n 3, 1), (61, .aaload, 1), (62, .areturn, 1), (63, .iinc 3 1, 3), (66, .goto (-50), 3), (69, .aconst_null, 1), (70, .areturn, 1)]
theorem dX2_placeFor : x_il nX2_placeFor 71 iX2_placeFor = true := by decide +kernel
theorem aX2_placeFor (k : Nat) {pc : Nat} {i : Jvm.ClassFile.Instr} {len : Nat} (hk : iX2_placeFor[k]? = some (pc, i, len)) : x_at xMM 28 pc i len yX2_placeFor 4 (some (.object "LocationDesk$Place")) := ⟨cX2_placeFor, rfl, x_il_ok bX2_placeFor dX2_placeFor k hk⟩
set_option maxHeartbeats 4000000 in
set_option maxRecDepth 100000 in
theorem k_X2_placeFor {sk : xK} {base d n sl : Nat} {SH : Nat → Nat × Nat} {FI : Nat → Nat → Int32} {FL : Nat → Nat → Int64} {FR : Nat → Nat → Option Nat} (hS : h_S n SH) (hF : h_FR FR) (hI : g_I FI) (hR : g_R n SH FR) (a1 : Nat) {z1 : Nat} (ha1l : a1 < n) (ha1s : SH a1 = (10, z1)) (ha1o : own a1) (a2 : Int64) (gg0 : g_Vv SH FR a1) : hw sk base (d + 1) none 28 0 [(0, .ref (base + a1)), (1, .long (a2))] [] (n, sl, SH, FI, FL, FR) (h_A base (fun r s => s = (n, sl, SH, FI, FL, FR) ∧ (∀ q, r = some q → q < n ∧ own q ∧ SH q = (6, (SH q).2)))) := by
  have rg_a2 := l_rng a2
  obtain ⟨⟨r1, h5, hz9⟩, ⟨r2, h6, hz10⟩, ⟨r3, h7, hz11⟩, ⟨r4, h8⟩⟩ := gg0
  obtain ⟨lt13, ow14, sh15⟩ := gR_get hR ha1l ha1o ha1s h5
  obtain ⟨lt16, ow17, sh18⟩ := gR_get hR ha1l ha1o ha1s h6
  obtain ⟨lt19, ow20, sh21⟩ := gR_get hR ha1l ha1o ha1s h7
  obtain ⟨lt22, ow23, sh24⟩ := gR_get hR ha1l ha1o ha1s h8
  refine hw_aloadn (aX2_placeFor 0 rfl) rfl ?_
  obtain ⟨x25, h26⟩ : ∃ y, FI a1 5 = y := ⟨_, rfl⟩
  have h26l := congrArg Int32.toInt h26
  have := i_rng x25
  refine hw_get (v := .int (x25)) (aX2_placeFor 1 rfl) wf_RX2_69 ha1l ha1s (by decide) (congrArg Value.int (show FI a1 5 = x25 from h26)) ?_
  refine hw_ifne (tgt := 14) (aX2_placeFor 2 rfl) (by decide) rfl (fun cd27 => ?_) (fun cd27 => ?_)
  · refine hw_ic (v := (0 : Int32)) (aX2_placeFor 8 rfl) (by decide) ?_
    refine xw_istoren (L2 := [(3, .int ((0 : Int32))), (0, .ref (base + a1)), (1, .long (a2))]) (aX2_placeFor 9 rfl) (by decide) rfl ?_
    have lp29 : ∀ (m : Nat) (y3 : Int32), (0 ≤ (y3).toInt ∧ (y3).toInt ≤ 8) → 8 - (y3).toInt < m → hw sk base (d + 1) none 28 16 [(3, .int (y3)), (0, .ref (base + a1)), (1, .long (a2))] [] (n, sl, SH, FI, FL, FR) (h_A base (fun r s => s = (n, sl, SH, FI, FL, FR) ∧ (∀ q, r = some q → q < n ∧ own q ∧ SH q = (6, (SH q).2)))) := by
      intro m
      induction m with
      | zero => intro y3 iv28 hm; omega
      | succ m ih =>
        intro y3 iv28 hm
        have rg_y3 := i_rng y3
        refine xw_iloadn (aX2_placeFor 10 rfl) rfl ?_
        refine hw_aloadn (aX2_placeFor 11 rfl) rfl ?_
        refine hw_get (v := .int (x25)) (aX2_placeFor 12 rfl) wf_RX2_69 ha1l ha1s (by decide) (congrArg Value.int (show FI a1 5 = x25 from h26)) ?_
        refine hw_icge (tgt := 69) (aX2_placeFor 13 rfl) (by decide) rfl rfl (fun cd30 => ?_) (fun cd30 => ?_)
        · refine xw_null (aX2_placeFor 38 rfl) ?_
          refine xw_aret (v := h_rf base (none)) (aX2_placeFor 39 rfl) rfl (by first | exact Or.inl ⟨_, rfl⟩ | exact Or.inr ⟨_, rfl⟩) ?_
          exact ⟨none, rfl, rfl, ((fun r e => by cases e))⟩
        · refine xw_iloadn (aX2_placeFor 14 rfl) rfl ?_
          refine hw_bp (v := (8 : Int32)) (aX2_placeFor 15 rfl) (by decide) ?_
          refine hw_icge (tgt := 69) (aX2_placeFor 16 rfl) (by decide) rfl (by decide : (8 : Int32).toInt = 8) (fun cd31 => ?_) (fun cd31 => ?_)
          · refine xw_null (aX2_placeFor 38 rfl) ?_
            refine xw_aret (v := h_rf base (none)) (aX2_placeFor 39 rfl) rfl (by first | exact Or.inl ⟨_, rfl⟩ | exact Or.inr ⟨_, rfl⟩) ?_
            exact ⟨none, rfl, rfl, ((fun r e => by cases e))⟩
          · refine xw_lloadn (aX2_placeFor 17 rfl) rfl ?_
            refine hw_aloadn (aX2_placeFor 18 rfl) rfl ?_
            refine hw_get (v := .ref (base + r1)) (aX2_placeFor 19 rfl) wf_RX2_78 ha1l ha1s (by decide) (congrArg (fun r => va_rf (h_rf base r)) (show FR a1 2 = some r1 from h5)) ?_
            refine xw_iloadn (aX2_placeFor 20 rfl) rfl ?_
            obtain ⟨x32, h33⟩ : ∃ y, FL r1 (y3).toNatClampNeg = y := ⟨_, rfl⟩
            have h33l := congrArg Int64.toInt h33
            have := l_rng x32
            refine hw_lald (v := x32) (aX2_placeFor 21 rfl) lt13 hz9 (h_in rfl (by omega) (by omega)) (show FL r1 (y3).toNatClampNeg = x32 from h33) ?_
            refine hw_callS (As := [.long (a2), .long (x32)]) (rest := []) (aX2_placeFor 22 rfl) wc_RX2_82 (by decide) rfl wt_yX11_isBelow rfl rfl (Nat.le_of_ble_eq_true rfl) (Nat.le_of_ble_eq_true rfl) (k_X11_isBelow (d := d) hS hF hI hR (a2) (x32) ) (fun v34 sv35 p36 => ?_)
            obtain ⟨r37, rfl, rfl, t41⟩ := p36
            show hw sk base _ _ _ _ _ [.int (r37)] _ _
            refine hw_ifne (tgt := 63) (aX2_placeFor 23 rfl) (by decide) rfl (fun cd44 => ?_) (fun cd44 => ?_)
            · obtain ⟨x45, q47⟩ : ∃ y : Int32, (y3) + Int32.ofInt (1) = y := ⟨_, rfl⟩
              have e46 : (x45).toInt = (y3).toInt + (1) := by rw [← q47]; exact i_add rfl (by decide) (by omega) (by omega)
              refine xw_iinc (L2 := [(3, .int (x45)), (0, .ref (base + a1)), (1, .long (a2))]) (aX2_placeFor 36 rfl) rfl (by decide) (by rw [q47]; rfl) ?_
              refine xw_goto (tgt := 16) (aX2_placeFor 37 rfl) (by decide) ?_
              exact hw_L (ih (x45) (by have := (e46 : (x45).toInt = (y3).toInt + (1)); omega) (by have := (e46 : (x45).toInt = (y3).toInt + (1)); omega)) ⟨rfl, rfl, rfl, trivial⟩
            · refine xw_lloadn (aX2_placeFor 24 rfl) rfl ?_
              refine hw_aloadn (aX2_placeFor 25 rfl) rfl ?_
              refine hw_get (v := .ref (base + r2)) (aX2_placeFor 26 rfl) wf_RX2_86 ha1l ha1s (by decide) (congrArg (fun r => va_rf (h_rf base r)) (show FR a1 3 = some r2 from h6)) ?_
              refine xw_iloadn (aX2_placeFor 27 rfl) rfl ?_
              obtain ⟨x48, h49⟩ : ∃ y, FL r2 (y3).toNatClampNeg = y := ⟨_, rfl⟩
              have h49l := congrArg Int64.toInt h49
              have := l_rng x48
              refine hw_lald (v := x48) (aX2_placeFor 28 rfl) lt16 hz10 (h_in rfl (by omega) (by omega)) (show FL r2 (y3).toNatClampNeg = x48 from h49) ?_
              refine hw_callS (As := [.long (a2), .long (x48)]) (rest := []) (aX2_placeFor 29 rfl) wc_RX2_82 (by decide) rfl wt_yX11_isBelow rfl rfl (Nat.le_of_ble_eq_true rfl) (Nat.le_of_ble_eq_true rfl) (k_X11_isBelow (d := d) hS hF hI hR (a2) (x48) ) (fun v50 sv51 p52 => ?_)
              obtain ⟨r53, rfl, rfl, t57⟩ := p52
              show hw sk base _ _ _ _ _ [.int (r53)] _ _
              refine hw_ifeq (tgt := 63) (aX2_placeFor 30 rfl) (by decide) rfl (fun cd60 => ?_) (fun cd60 => ?_)
              · obtain ⟨x61, q63⟩ : ∃ y : Int32, (y3) + Int32.ofInt (1) = y := ⟨_, rfl⟩
                have e62 : (x61).toInt = (y3).toInt + (1) := by rw [← q63]; exact i_add rfl (by decide) (by omega) (by omega)
                refine xw_iinc (L2 := [(3, .int (x61)), (0, .ref (base + a1)), (1, .long (a2))]) (aX2_placeFor 36 rfl) rfl (by decide) (by rw [q63]; rfl) ?_
                refine xw_goto (tgt := 16) (aX2_placeFor 37 rfl) (by decide) ?_
                exact hw_L (ih (x61) (by have := (e62 : (x61).toInt = (y3).toInt + (1)); omega) (by have := (e62 : (x61).toInt = (y3).toInt + (1)); omega)) ⟨rfl, rfl, rfl, trivial⟩
              · refine hw_aloadn (aX2_placeFor 31 rfl) rfl ?_
                refine hw_get (v := .ref (base + r3)) (aX2_placeFor 32 rfl) wf_RX2_74 ha1l ha1s (by decide) (congrArg (fun r => va_rf (h_rf base r)) (show FR a1 4 = some r3 from h7)) ?_
                refine xw_iloadn (aX2_placeFor 33 rfl) rfl ?_
                obtain ⟨o64, h65⟩ : ∃ y, FR r3 (y3).toNatClampNeg = y := ⟨_, rfl⟩
                have ht66 : ∀ r, o64 = some r → r < n ∧ own r ∧ SH r = (6, (SH r).2) := fun r e => gR_get hR lt19 ow20 hz11 (h65.trans e)
                refine hw_aald (k := 5) (v := o64) (aX2_placeFor 34 rfl) lt19 hz11 (by decide) (by decide) (h_in rfl (by omega) (by omega)) (show FR r3 (y3).toNatClampNeg = o64 from h65) ?_
                refine xw_aret (v := h_rf base (o64)) (aX2_placeFor 35 rfl) rfl (by first | exact Or.inl ⟨_, rfl⟩ | exact Or.inr ⟨_, rfl⟩) ?_
                exact ⟨o64, rfl, rfl, (ht66)⟩
    exact hw_L (lp29 ((8 - 0 : Int).toNat + 1) ((0 : Int32)) (by have := ((by decide : (0 : Int32).toInt = 0) : ((0 : Int32)).toInt = 0); omega) (by have := ((by decide : (0 : Int32).toInt = 0) : ((0 : Int32)).toInt = 0); omega)) ⟨rfl, rfl, rfl, trivial⟩
  · refine hw_aloadn (aX2_placeFor 3 rfl) rfl ?_
    refine hw_get (v := .ref (base + r3)) (aX2_placeFor 4 rfl) wf_RX2_74 ha1l ha1s (by decide) (congrArg (fun r => va_rf (h_rf base r)) (show FR a1 4 = some r3 from h7)) ?_
    refine hw_ic (v := (0 : Int32)) (aX2_placeFor 5 rfl) (by decide) ?_
    obtain ⟨o67, h68⟩ : ∃ y, FR r3 ((0 : Int32)).toNatClampNeg = y := ⟨_, rfl⟩
    have ht69 : ∀ r, o67 = some r → r < n ∧ own r ∧ SH r = (6, (SH r).2) := fun r e => gR_get hR lt19 ow20 hz11 (h68.trans e)
    refine hw_aald (k := 5) (v := o67) (aX2_placeFor 6 rfl) lt19 hz11 (by decide) (by decide) (h_in (by decide : (0 : Int32).toInt = 0) (by omega) (by omega)) (show FR r3 ((0 : Int32)).toNatClampNeg = o67 from h68) ?_
    refine xw_aret (v := h_rf base (o67)) (aX2_placeFor 7 rfl) rfl (by first | exact Or.inl ⟨_, rfl⟩ | exact Or.inr ⟨_, rfl⟩) ?_
    exact ⟨o67, rfl, rfl, (ht69)⟩
def nX2_say : Nat := 0xac2100b42ab9ffa7053a4100b405193d00b6036808103000b405191500b42a0c00b42a1700a73900b61500b42a3500b60c00b42a1400a0023000b405192c00b605192a41009a2100b42a4800c60519053a0419043a2800b8202b2500b60c00b42a2100b5032a
theorem bX2_say : cX2_say.data.toList.map UInt8.toNat = x_un nX2_say 102 := by decide +kernel
def iX2_say : List (Nat × Jvm.ClassFile.Instr × Nat) := [(0, .aload_n 0, 1), (1, .iconst 0, 1), (2, .putfield 33, 3), (5, .aload_n 0, 1), (6, .getfield 12, 3), (9, .invokevirtual 37, 3), (12, .aload_n 1, 1), (13, .lload_n 2, 1), (14, .invokestatic 40, 3), (17, .astore 4, 2), (19, .aload 4, 2), (21, .astore 5, 2), (23, .aload 5, 2), (25, .ifnull 72, 3), (28, .aload_n 0, 1), (29, .getfield 33, 3), (32, .ifCond .ne 65, 3), (35, .aload_n 0, 1), (36, .aload 5, 2), (38, .invokevirtual 44, 3), (41, .aload 5, 2), (43, .getfield 48, 3), (46, .iconst (-1), 1), (47, .if_icmp .ne 20, 3), (50, .aload_n 0, 1), (51, .getfield 12, 3), (54, .invokevirtual 53, 3), (57, .aload_n 0, 1), (58, .getfield 21, 3), (61, .invokevirtual 57, 3), (64, .goto 23, 3), (67, .aload_n 0, 1), (68, .getfield 12, 3), (71, .aload_n 0, 1), (72, .getfield 21, 3), (75, .aload 5, 2), (77, .getfield 48, 3), (80, .bipush 8, 2), (82, .imul, 1), (83, .iconst 0, 1), (84, .invokevirtual 61, 3), (87, .aload 5, 2), (89, .getfield 65, 3), (92, .astore 5, 2), (94, .goto (-71), 3), (97, .aload_n 0, 1), (98, .getfield 33, 3), (101, .ireturn, 1)]
theorem dX2_say : x_il nX2_say 102 iX2_say = true := by decide +kernel
theorem aX2_say (k : Nat) {pc : Nat} {i : Jvm.ClassFile.Instr} {len : Nat} (hk : iX2_say[k]? = some (pc, i, len)) : x_at xMM 27 pc i len yX2_say 6 (some .int) := ⟨cX2_say, rfl, x_il_ok bX2_say dX2_say k hk⟩
set_option maxHeartbeats 4000000 in
set_option maxRecDepth 100000 in
theorem k_X2_say {sk : xK} {base d n sl : Nat} {SH : Nat → Nat × Nat} {FI : Nat → Nat → Int32} {FL : Nat → Nat → Int64} {FR : Nat → Nat → Option Nat} (hS : h_S n SH) (hF : h_FR FR) (hI : g_I FI) (hR : g_R n SH FR) (a1 : Nat) {z1 : Nat} (ha1l : a1 < n) (ha1s : SH a1 = (10, z1)) (ha1o : own a1) (a2 : Int64) (gp : Nat → Nat) (gw : Nat → Nat) (gs : Nat → Nat) (gg0 : g_T n SH FI FR gp gw gs) (gg1 : g_Vv SH FR a1) : hw sk base (d + 302) none 27 0 [(0, .ref (base + 90)), (1, .ref (base + a1)), (2, .long (a2))] [] (n, sl, SH, FI, FL, FR) (h_I (fun r s => ∃ FI' FL' FR', s = (n, sl, SH, FI', FL', FR') ∧ g_I FI' ∧ g_fr n (shd SH) [(48, 5), (48, 6), (48, 7), (48, 8), (48, 9), (48, 10), (48, 11), (49, 5), (49, 6), (49, 7), (49, 8), (49, 9), (49, 10), (49, 11), (90, 4)] [] [5, 8, 9] FI FI' ∧ g_fr n (shd SH) [(48, 12), (48, 13), (48, 14), (48, 15), (49, 12), (49, 13), (49, 14), (49, 15)] [] [5, 9, 101] FL FL' ∧ g_fr n (shd SH) [] [] [5] FR FR' ∧ h_FR FR' ∧ g_R n SH FR')) := by
  have rg_a2 := l_rng a2
  refine hw_aloadn (aX2_say 0 rfl) rfl ?_
  refine hw_ic (v := (0 : Int32)) (aX2_say 1 rfl) (by decide) ?_
  refine hv_puti (aX2_say 2 rfl) wf_RX2_33 (c90 hS) (s90 hS) (by decide) rfl rfl (fun FI1 u2 => ?_)
  have hI3 : g_I FI1 := gU_F hI u2 rfl
  refine hw_aloadn (aX2_say 3 rfl) rfl ?_
  refine hw_get (v := .ref (base + 91)) (aX2_say 4 rfl) wf_RX2_12 (c90 hS) (s90 hS) (by decide) (congrArg (fun r => va_rf (h_rf base r)) (r90_2 hF)) ?_
  refine hw_callV (Bs := []) (rest := []) (aX2_say 5 rfl) wc_RX2_37 (by decide) rfl wi_yX8_clear wv_yX8_clear (c91 hS) (s91 hS) rfl rfl rfl (Nat.le_of_ble_eq_true rfl) (Nat.le_of_ble_eq_true rfl) (k_X8_clear (d := d + 300) hS hF hI3 hR (91) (c91 hS) (s91 hS) (Or.inl (by decide)) ) (fun v4 sv5 p6 => ?_)
  obtain ⟨rfl, FI8, FL9, rfl, hI10, f11, f12⟩ := p6
  show hw sk base _ _ _ _ _ [] _ _
  refine hw_aloadn (aX2_say 6 rfl) rfl ?_
  refine xw_lloadn (aX2_say 7 rfl) rfl ?_
  refine hw_callS (As := [.ref (base + a1), .long (a2)]) (rest := []) (aX2_say 8 rfl) wc_RX2_40 (by decide) rfl wt_yX2_placeFor rfl rfl (Nat.le_of_ble_eq_true rfl) (Nat.le_of_ble_eq_true rfl) (k_X2_placeFor (d := d + 300) hS hF hI10 hR (a1) ha1l ha1s ha1o (a2) (gV_mw (L2 := []) (A2 := []) (T2 := [5]) hS gg1 ha1l (by rw [ha1s]) gf_rf (by decide))) (fun v17 sv18 p19 => ?_)
  obtain ⟨r20, rfl, rfl, ht24⟩ := p19
  show hw sk base _ _ _ _ _ [va_rf (h_rf base (r20))] _ _
  refine xw_astore (L2 := [(4, va_rf (h_rf base (r20))), (0, .ref (base + 90)), (1, .ref (base + a1)), (2, .long (a2))]) (aX2_say 9 rfl) (by decide) (by first | rfl | simp [x_s1, x_s2, va_cat, va_ci, va_cl, va_cr, va_cn] | (simp [x_s1, x_s2, va_cat, va_ci, va_cl, va_cr, va_cn]; decide)) ?_
  refine xw_aload (aX2_say 10 rfl) rfl ?_
  refine xw_astore (L2 := [(5, va_rf (h_rf base (r20))), (4, va_rf (h_rf base (r20))), (0, .ref (base + 90)), (1, .ref (base + a1)), (2, .long (a2))]) (aX2_say 11 rfl) (by decide) (by first | rfl | simp [x_s1, x_s2, va_cat, va_ci, va_cl, va_cr, va_cn] | (simp [x_s1, x_s2, va_cat, va_ci, va_cl, va_cr, va_cn]; decide)) ?_
  have lp36 : ∀ (m : Nat) (y5 : Option Nat) (FIv27 : Nat → Nat → Int32) (FLv28 : Nat → Nat → Int64) (FRv29 : Nat → Nat → Option Nat), (∀ q, y5 = some q → q < n ∧ own q ∧ SH q = (6, (SH q).2)) → (g_fr n (shd SH) [(48, 5), (48, 6), (48, 7), (48, 8), (48, 9), (48, 10), (48, 11), (49, 5), (49, 6), (49, 7), (49, 8), (49, 9), (49, 10), (49, 11), (90, 4)] [] [5, 8, 9] FI FIv27) → (g_fr n (shd SH) [(48, 12), (48, 13), (48, 14), (48, 15), (49, 12), (49, 13), (49, 14), (49, 15)] [] [5, 9, 101] FL FLv28) → (g_fr n (shd SH) [] [] [5] FR FRv29) → (g_I FIv27) → (h_FR FRv29) → (g_R n SH FRv29) → ((g_ms gs 200000000 (y5) : Nat) : Int) < m → hw sk base (d + 302) none 27 23 [(5, va_rf (h_rf base (y5))), (0, .ref (base + 90))] [] (n, sl, SH, FIv27, FLv28, FRv29) (h_I (fun r s => ∃ FI' FL' FR', s = (n, sl, SH, FI', FL', FR') ∧ g_I FI' ∧ g_fr n (shd SH) [(48, 5), (48, 6), (48, 7), (48, 8), (48, 9), (48, 10), (48, 11), (49, 5), (49, 6), (49, 7), (49, 8), (49, 9), (49, 10), (49, 11), (90, 4)] [] [5, 8, 9] FI FI' ∧ g_fr n (shd SH) [(48, 12), (48, 13), (48, 14), (48, 15), (49, 12), (49, 13), (49, 14), (49, 15)] [] [5, 9, 101] FL FL' ∧ g_fr n (shd SH) [] [] [5] FR FR' ∧ h_FR FR' ∧ g_R n SH FR')) := by
    intro m
    induction m with
    | zero => intro y5 FIv27 FLv28 FRv29 ty26 fr30 fr31 fr32 hI33 hF34 hR35 hm; omega
    | succ m ih =>
      intro y5 FIv27 FLv28 FRv29 ty26 fr30 fr31 fr32 hI33 hF34 hR35 hm
      refine xw_aload (aX2_say 12 rfl) rfl ?_
      refine xw_ifnull (v := h_rf base y5) (tgt := 97) (aX2_say 13 rfl) (by decide) (fun hn37 => ?_) (fun hn37 => ?_)
      · obtain rfl := h_rf_n hn37
        show hw sk base _ _ _ _ [(5, .null), (0, .ref (base + 90))] [] _ _
        refine hw_aloadn (aX2_say 45 rfl) rfl ?_
        obtain ⟨x38, h39⟩ : ∃ y, FIv27 90 4 = y := ⟨_, rfl⟩
        have h39l := congrArg Int32.toInt h39
        have := i_rng x38
        refine hw_get (v := .int (x38)) (aX2_say 46 rfl) wf_RX2_33 (c90 hS) (s90 hS) (by decide) (congrArg Value.int (show FIv27 90 4 = x38 from h39)) ?_
        refine xw_iret (aX2_say 47 rfl) rfl rfl ?_
        exact ⟨x38, rfl, FIv27, FLv28, FRv29, rfl, hI33, fr30, fr31, fr32, hF34, hR35⟩
      · obtain ⟨r40, rfl⟩ := h_rf_s hn37
        obtain ⟨lt41, ow42, sh43⟩ := ty26 r40 rfl
        show hw sk base _ _ _ _ [(5, .ref (base + r40)), (0, .ref (base + 90))] [] _ _
        have hm3 := gT_m (gT_mw (L := [(48, 5), (48, 6), (48, 7), (48, 8), (48, 9), (48, 10), (48, 11), (49, 5), (49, 6), (49, 7), (49, 8), (49, 9), (49, 10), (49, 11), (90, 4)]) (A := []) (T := [5, 8, 9]) (L2 := []) (A2 := []) (T2 := [5]) hS gg0 fr30 fr32 (by decide) (by decide)) lt41 sh43
        have he3 := gT_e (gT_mw (L := [(48, 5), (48, 6), (48, 7), (48, 8), (48, 9), (48, 10), (48, 11), (49, 5), (49, 6), (49, 7), (49, 8), (49, 9), (49, 10), (49, 11), (90, 4)]) (A := []) (T := [5, 8, 9]) (L2 := []) (A2 := []) (T2 := [5]) hS gg0 fr30 fr32 (by decide) (by decide)) lt41 sh43 rfl
        refine hw_aloadn (aX2_say 14 rfl) rfl ?_
        obtain ⟨x44, h45⟩ : ∃ y, FIv27 90 4 = y := ⟨_, rfl⟩
        have h45l := congrArg Int32.toInt h45
        have := i_rng x44
        refine hw_get (v := .int (x44)) (aX2_say 15 rfl) wf_RX2_33 (c90 hS) (s90 hS) (by decide) (congrArg Value.int (show FIv27 90 4 = x44 from h45)) ?_
        refine hw_ifne (tgt := 97) (aX2_say 16 rfl) (by decide) rfl (fun cd46 => ?_) (fun cd46 => ?_)
        · refine hw_aloadn (aX2_say 45 rfl) rfl ?_
          refine hw_get (v := .int (x44)) (aX2_say 46 rfl) wf_RX2_33 (c90 hS) (s90 hS) (by decide) (congrArg Value.int (show FIv27 90 4 = x44 from h45)) ?_
          refine xw_iret (aX2_say 47 rfl) rfl rfl ?_
          exact ⟨x44, rfl, FIv27, FLv28, FRv29, rfl, hI33, fr30, fr31, fr32, hF34, hR35⟩
        · refine hw_aloadn (aX2_say 17 rfl) rfl ?_
          refine hw_aload (aX2_say 18 rfl) rfl ?_
          refine hw_callV (Bs := [.ref (base + r40)]) (rest := []) (aX2_say 19 rfl) wc_RX2_44 (by decide) rfl wi_yX2_meet wv_yX2_meet (c90 hS) (s90 hS) rfl rfl rfl (Nat.le_of_ble_eq_true rfl) (Nat.le_of_ble_eq_true rfl) (k_X2_meet (d := d) hS hF34 hI33 hR35 (r40) lt41 sh43 ow42 (gp) (gw) (gs) ((gT_mw (L := [(48, 5), (48, 6), (48, 7), (48, 8), (48, 9), (48, 10), (48, 11), (49, 5), (49, 6), (49, 7), (49, 8), (49, 9), (49, 10), (49, 11), (90, 4)]) (A := []) (T := [5, 8, 9]) (L2 := []) (A2 := []) (T2 := [5]) hS gg0 fr30 fr32 (by decide) (by decide)))) (fun v47 sv48 p49 => ?_)
          obtain ⟨rfl, FI51, FL52, FR53, rfl, hI54, f55, f56, f57, hF58, hR59⟩ := p49
          show hw sk base _ _ _ _ _ [] _ _
          refine hw_aload (aX2_say 20 rfl) rfl ?_
          obtain ⟨x62, h63⟩ : ∃ y, FI51 r40 4 = y := ⟨_, rfl⟩
          have h63l := congrArg Int32.toInt h63
          have := i_rng x62
          refine hw_get (v := .int (x62)) (aX2_say 21 rfl) wf_RX2_48 lt41 sh43 (by decide) (congrArg Value.int (show FI51 r40 4 = x62 from h63)) ?_
          refine hw_ic (v := ((-1) : Int32)) (aX2_say 22 rfl) (by decide) ?_
          refine hw_icne (tgt := 67) (aX2_say 23 rfl) (by decide) rfl (by decide : ((-1) : Int32).toInt = (-1)) (fun cd64 => ?_) (fun cd64 => ?_)
          · refine hw_aloadn (aX2_say 31 rfl) rfl ?_
            refine hw_get (v := .ref (base + 91)) (aX2_say 32 rfl) wf_RX2_12 (c90 hS) (s90 hS) (by decide) (congrArg (fun r => va_rf (h_rf base r)) (r90_2 hF58)) ?_
            refine hw_aloadn (aX2_say 33 rfl) rfl ?_
            refine hw_get (v := .ref (base + 109)) (aX2_say 34 rfl) wf_RX2_21 (c90 hS) (s90 hS) (by decide) (congrArg (fun r => va_rf (h_rf base r)) (r90_3 hF58)) ?_
            refine hw_aload (aX2_say 35 rfl) rfl ?_
            refine hw_get (v := .int (x62)) (aX2_say 36 rfl) wf_RX2_48 lt41 sh43 (by decide) (congrArg Value.int (show FI51 r40 4 = x62 from h63)) ?_
            refine hw_bp (v := (8 : Int32)) (aX2_say 37 rfl) (by decide) ?_
            refine xw_imul (aX2_say 38 rfl) ?_
            refine hw_ti (fun x65 => ?_)
            have b66 := i_rng x65
            refine hw_ic (v := (0 : Int32)) (aX2_say 39 rfl) (by decide) ?_
            refine hw_callV (Bs := [.ref (base + 109), .int (x65), .int ((0 : Int32))]) (rest := []) (aX2_say 40 rfl) wc_RX2_61 (by decide) rfl wi_yX8_addPiece wv_yX8_addPiece (c91 hS) (s91 hS) rfl rfl rfl (Nat.le_of_ble_eq_true rfl) (Nat.le_of_ble_eq_true rfl) (k_X8_addPiece (d := d + 300) hS hF58 hI54 hR59 (91) (c91 hS) (s91 hS) (Or.inl (by decide)) (109) (c109 hS) (s109 hS) (Or.inl (by decide)) (x65) ((0 : Int32)) ) (fun v67 sv68 p69 => ?_)
            obtain ⟨rfl, FI71, FL72, FR73, rfl, hI74, f75, f76, f77, hF78, hR79⟩ := p69
            show hw sk base _ _ _ _ _ [] _ _
            refine hw_aload (aX2_say 41 rfl) rfl ?_
            obtain ⟨o82, h83⟩ : ∃ y, FR73 r40 5 = y := ⟨_, rfl⟩
            have ht84 : ∀ r, o82 = some r → r < n ∧ own r ∧ SH r = (6, (SH r).2) := fun r e => gR_get hR79 lt41 ow42 sh43 (h83.trans e)
            refine hw_get (v := va_rf (h_rf base (o82))) (aX2_say 42 rfl) wf_RX2_65 lt41 sh43 (by decide) (congrArg (fun r => va_rf (h_rf base r)) (show FR73 r40 5 = o82 from h83)) ?_
            refine xw_astore (L2 := [(5, va_rf (h_rf base (o82))), (0, .ref (base + 90))]) (aX2_say 43 rfl) (by decide) (by first | rfl | simp [x_s1, x_s2, va_cat, va_ci, va_cl, va_cr, va_cn] | (simp [x_s1, x_s2, va_cat, va_ci, va_cl, va_cr, va_cn]; decide)) ?_
            refine xw_goto (tgt := 23) (aX2_say 44 rfl) (by decide) ?_
            exact hw_L (ih (o82) FI71 FL72 FR73 (ht84) (gf_tr ex_rf (gf_tr ex_rf fr30 f55 rfl rfl rfl) f75 rfl rfl rfl) (gf_tr ex_rf (gf_tr ex_rf fr31 f56 rfl rfl rfl) f76 rfl rfl rfl) (gf_tr ex_rf (gf_tr ex_rf fr32 f57 rfl rfl rfl) f77 rfl rfl rfl) hI74 hF78 hR79 (by rcases hq : (o82) with _ | q9; { simp only [g_ms] at hm ⊢; omega }; { have q8 := gT_l (gT_mw (L := [(48, 5), (48, 6), (48, 7), (48, 8), (48, 9), (48, 10), (48, 11), (49, 5), (49, 6), (49, 7), (49, 8), (49, 9), (49, 10), (49, 11), (90, 4)]) (A := []) (T := [5, 8, 9]) (L2 := []) (A2 := []) (T2 := [5]) hS gg0 (gf_tr ex_rf (gf_tr ex_rf fr30 f55 rfl rfl rfl) f75 rfl rfl rfl) (gf_tr ex_rf (gf_tr ex_rf fr32 f57 rfl rfl rfl) f77 rfl rfl rfl) (by decide) (by decide)) lt41 sh43 (r := q9) ((show FR73 r40 5 = o82 from h83).trans hq); simp only [g_ms] at hm ⊢; omega })) ⟨rfl, rfl, trivial⟩
          · refine hw_aloadn (aX2_say 24 rfl) rfl ?_
            refine hw_get (v := .ref (base + 91)) (aX2_say 25 rfl) wf_RX2_12 (c90 hS) (s90 hS) (by decide) (congrArg (fun r => va_rf (h_rf base r)) (r90_2 hF58)) ?_
            refine hw_callV (Bs := []) (rest := []) (aX2_say 26 rfl) wc_RX2_53 (by decide) rfl wi_yX8_only wv_yX8_only (c91 hS) (s91 hS) rfl rfl rfl (Nat.le_of_ble_eq_true rfl) (Nat.le_of_ble_eq_true rfl) (k_X8_only (d := d + 301) hS hF58 hI54 hR59 (91) (c91 hS) (s91 hS) (Or.inl (by decide)) ) (fun v85 sv86 p87 => ?_)
            obtain ⟨r88, rfl, rfl, ht92, nn93⟩ := p87
            obtain ⟨r94, rfl⟩ : ∃ q, r88 = some q := Option.ne_none_iff_exists'.mp nn93
            obtain ⟨lt95, ow96, sh97⟩ := ht92 r94 rfl
            show hw sk base _ _ _ _ _ [.ref (base + r94)] _ _
            refine hw_aloadn (aX2_say 27 rfl) rfl ?_
            refine hw_get (v := .ref (base + 109)) (aX2_say 28 rfl) wf_RX2_21 (c90 hS) (s90 hS) (by decide) (congrArg (fun r => va_rf (h_rf base r)) (r90_3 hF58)) ?_
            refine hw_callV (Bs := [.ref (base + 109)]) (rest := []) (aX2_say 29 rfl) wc_RX2_57 (by decide) rfl wi_yX5_take wv_yX5_take lt95 sh97 rfl rfl rfl (Nat.le_of_ble_eq_true rfl) (Nat.le_of_ble_eq_true rfl) (k_X5_take (d := d + 301) hS hF58 hI54 hR59 (r94) lt95 sh97 ow96 (109) (c109 hS) (s109 hS) (Or.inl (by decide)) ) (fun v98 sv99 p100 => ?_)
            obtain ⟨rfl, FI102, FL103, FR104, rfl, hI105, f106, f107, f108, hF109, hR110⟩ := p100
            show hw sk base _ _ _ _ _ [] _ _
            refine xw_goto (tgt := 87) (aX2_say 30 rfl) (by decide) ?_
            refine hw_aload (aX2_say 41 rfl) rfl ?_
            obtain ⟨o113, h114⟩ : ∃ y, FR104 r40 5 = y := ⟨_, rfl⟩
            have ht115 : ∀ r, o113 = some r → r < n ∧ own r ∧ SH r = (6, (SH r).2) := fun r e => gR_get hR110 lt41 ow42 sh43 (h114.trans e)
            refine hw_get (v := va_rf (h_rf base (o113))) (aX2_say 42 rfl) wf_RX2_65 lt41 sh43 (by decide) (congrArg (fun r => va_rf (h_rf base r)) (show FR104 r40 5 = o113 from h114)) ?_
            refine xw_astore (L2 := [(5, va_rf (h_rf base (o113))), (0, .ref (base + 90))]) (aX2_say 43 rfl) (by decide) (by first | rfl | simp [x_s1, x_s2, va_cat, va_ci, va_cl, va_cr, va_cn] | (simp [x_s1, x_s2, va_cat, va_ci, va_cl, va_cr, va_cn]; decide)) ?_
            refine xw_goto (tgt := 23) (aX2_say 44 rfl) (by decide) ?_
            exact hw_L (ih (o113) FI102 FL103 FR104 (ht115) (gf_tr ex_rf (gf_tr ex_rf fr30 f55 rfl rfl rfl) f106 rfl rfl rfl) (gf_tr ex_rf (gf_tr ex_rf fr31 f56 rfl rfl rfl) f107 rfl rfl rfl) (gf_tr ex_rf (gf_tr ex_rf fr32 f57 rfl rfl rfl) f108 rfl rfl rfl) hI105 hF109 hR110 (by rcases hq : (o113) with _ | q9; { simp only [g_ms] at hm ⊢; omega }; { have q8 := gT_l (gT_mw (L := [(48, 5), (48, 6), (48, 7), (48, 8), (48, 9), (48, 10), (48, 11), (49, 5), (49, 6), (49, 7), (49, 8), (49, 9), (49, 10), (49, 11), (90, 4)]) (A := []) (T := [5, 8, 9]) (L2 := []) (A2 := []) (T2 := [5]) hS gg0 (gf_tr ex_rf (gf_tr ex_rf fr30 f55 rfl rfl rfl) f106 rfl rfl rfl) (gf_tr ex_rf (gf_tr ex_rf fr32 f57 rfl rfl rfl) f108 rfl rfl rfl) (by decide) (by decide)) lt41 sh43 (r := q9) ((show FR104 r40 5 = o113 from h114).trans hq); simp only [g_ms] at hm ⊢; omega })) ⟨rfl, rfl, trivial⟩
  exact hw_L (lp36 ((((g_ms gs 200000000 (r20) : Nat) : Int) : Int).toNat + 1) (r20) FI8 FL9 FR (ht24) (gf_tr ex_rf (gf_f gf_rf u2 (by decide)) f11 rfl rfl rfl) (gf_tr ex_rf gf_rf f12 rfl rfl rfl) gf_rf hI10 hF hR (by omega)) ⟨rfl, rfl, trivial⟩
end
section
/-! New cells: what stays, what is there. -/
section AL
variable {n n0 n2 : Nat} {SH SH2 S : Nat → Nat × Nat} {c t z : Nat}
theorem ex_shd (h : g_ex n SH n2 SH2) : g_ex n (shd SH) n2 (shd SH2) := ⟨h.1, fun c hc => by unfold shd; rw [h.2 c hc]⟩
theorem ex_lt (h : g_ex n SH n2 SH2) (hc : c < n) : c < n2 := Nat.lt_of_lt_of_le hc h.1
theorem ex_sh (h : g_ex n SH n2 SH2) (hc : c < n) (hs : SH c = (t, z)) : SH2 c = (t, z) := (h.2 c hc).trans hs
theorem ex_ty {o : Option Nat} (h : g_ex n SH n2 SH2) (ht : ∀ q, o = some q → q < n ∧ own q ∧ SH q = (t, (SH q).2)) : ∀ q, o = some q → q < n2 ∧ own q ∧ SH2 q = (t, (SH2 q).2) := fun q hq => by
  obtain ⟨h1, h2, h3⟩ := ht q hq
  have h4 := ex_sh h h1 h3
  exact ⟨ex_lt h h1, h2, by rw [h4]⟩
theorem gf_al {α : Type} {F F1 F2 : Nat → Nat → α} {L : List (Nat × Nat)} {A T : List Nat} (h : g_fr n0 S L A T F F1) (hn : n0 ≤ n) (e : ∀ c k, c ≠ n → F2 c k = F1 c k) : g_fr n0 S L A T F F2 := fun c k h1 h2 h3 h4 => (e c k (by omega)).trans (h c k h1 h2 h3 h4)
theorem gf_tx {α : Type} {F F1 F2 : Nat → Nat → α} {L : List (Nat × Nat)} {A T : List Nat} {k : Nat} {x : α} (e : g_ex n0 S n SH) (h : g_fr n0 S L A T F F1) (u : F2 = h_up F1 c k x) (hs : SH c = (t, z)) (m : t ∈ T) : g_fr n0 S L A T F F2 := fun c2 k2 h1 h2 h3 h4 => by
  by_cases hcc : c2 = c
  · subst hcc
    rw [← e.2 c2 h1, hs] at h4
    exact absurd m h4
  · exact up_c u hcc (h c2 k2 h1 h2 h3 h4)
theorem gs_new {FR FR2 : Nat → Nat → Option Nat} (hS : h_S n SH) (e : ∀ c k, c ≠ n → FR2 c k = FR c k) (h : h_FR FR) (m : hf_L.all (fun e => decide (e.1 < 176)) = true) : h_FR FR2 := fun q hq => by
  have := of_decide_eq_true (List.all_eq_true.mp m q hq)
  rw [e _ _ (by have := hS.1; omega)]
  exact h q hq
theorem hf_low : hf_L.all (fun e => decide (e.1 < 176)) = true := by decide +kernel
theorem gI_new {F F2 : Nat → Nat → Int32} (hn : 176 ≤ n) (e : ∀ c k, c ≠ n → F2 c k = F c k) (h : g_I F) : g_I F2 := fun c k => by
  by_cases hc : c = n
  · subst hc; rw [g_hi hn]; exact i_rng _
  · rw [e c k hc]; exact h c k
theorem gR_new {FR FR2 : Nat → Nat → Option Nat} (hS : h_S n SH) (ex : g_ex n SH (n + 1) SH2) (hs : g_dt (SH2 n).1) (e : ∀ c k, c ≠ n → FR2 c k = FR c k) (e0 : ∀ k, FR2 n k = none) (h : g_R n SH FR) : g_R (n + 1) SH2 FR2 := by
  have hn := hS.1
  refine ⟨fun c h1 h2 => ?_, fun c k r h1 h2 h3 => ?_, fun c k h1 => ?_, ?_⟩
  · by_cases hc : c = n
    · subst hc; exact hs
    · rw [ex.2 c (by omega)]; exact h.1 c h1 (by omega)
  · by_cases hc : c = n
    · subst hc; rw [e0] at h3; cases h3
    · rw [e c k hc] at h3
      obtain ⟨a1, a2, a3, a4⟩ := h.2.1 c k r (by omega) h2 h3
      rw [ex.2 c (by omega), ex.2 r a1]
      exact ⟨by omega, a2, a3, a4⟩
  · have : c ≠ n := by unfold g_nn at h1; omega
    rw [e c k this]; exact h.2.2.1 c k h1
  · rw [e 49 1 (by omega)]; exact h.2.2.2
/-- what holds behind a new cell of shape (t, z) -/
def g_nw (n : Nat) (SH : Nat → Nat × Nat) (FI : Nat → Nat → Int32) (FL : Nat → Nat → Int64) (FR : Nat → Nat → Option Nat) (t z n2 : Nat) (SH2 : Nat → Nat × Nat) (F2 : Nat → Nat → Int32) (G2 : Nat → Nat → Int64) (R2 : Nat → Nat → Option Nat) : Prop :=
  n2 = n + 1 ∧ g_ex n SH n2 SH2 ∧ h_S n2 SH2 ∧ h_FR R2 ∧ g_I F2 ∧ g_R n2 SH2 R2 ∧ n < n2 ∧ SH2 n = (t, z) ∧ 176 ≤ n ∧ (∀ c k, c ≠ n → F2 c k = FI c k) ∧ (∀ c k, c ≠ n → G2 c k = FL c k) ∧ (∀ c k, c ≠ n → R2 c k = FR c k) ∧ (∀ k, F2 n k = 0) ∧ (∀ k, G2 n k = 0) ∧ ∀ k, R2 n k = none
theorem g_nw_i {FI : Nat → Nat → Int32} {FL : Nat → Nat → Int64} {FR : Nat → Nat → Option Nat} (hS : h_S n SH) (hF : h_FR FR) (hI : g_I FI) (hR : g_R n SH FR) (hd : g_dt t) : g_nw n SH FI FL FR t z (n + 1) (va_up SH n (t, z)) (va_up FI n (fun _ => 0)) (va_up FL n (fun _ => 0)) (va_up FR n (fun _ => none)) := by
  have hn := hS.1
  have ex : g_ex n SH (n + 1) (va_up SH n (t, z)) := ⟨by omega, fun c hc => if_neg (by omega)⟩
  have eI : ∀ c k, c ≠ n → va_up FI n (fun _ => 0) c k = FI c k := fun c k h => by simp [va_up, h]
  have eL : ∀ c k, c ≠ n → va_up FL n (fun _ => 0) c k = FL c k := fun c k h => by simp [va_up, h]
  have eR : ∀ c k, c ≠ n → va_up FR n (fun _ => none) c k = FR c k := fun c k h => by simp [va_up, h]
  have hs : va_up SH n (t, z) n = (t, z) := if_pos rfl
  refine ⟨rfl, ex, ⟨by omega, fun q hq => (ex.2 q (by omega)).trans (hS.2 q hq)⟩, gs_new hS eR hF hf_low, gI_new hn eI hI, gR_new hS ex (by rw [hs]; exact hd) eR (fun k => by simp [va_up]) hR, by omega, hs, hn, eI, eL, eR, fun k => by simp [va_up], fun k => by simp [va_up], fun k => by simp [va_up]⟩
end AL
section AV
variable {base d : Nat} {X : Option (Nat × Nat × (Nat → Int32))} {j : Nat} {y : MethodName} {nL : Nat} {ret : Option FieldType} {pc : Nat} {L : xL} {st : List Value} {Φ : Option Value → hS → Prop} {n sl : Nat} {SH : Nat → Nat × Nat} {FI : Nat → Nat → Int32} {FL : Nat → Nat → Int64} {FR : Nat → Nat → Option Nat}
theorem hv_new {sk : xK} {idx t N : Nat} {C : String} {T : u_T} (hS : h_S n SH) (hF : h_FR FR) (hI : g_I FI) (hR : g_R n SH FR) (hd : g_dt t) (q : x_at xMM j pc (.new idx) 3 y nL ret) (ht : vwCl[t]? = some (C, T, N)) (hl : Cond.classLink y.cls idx C ∈ x_Ts) (hi : Cond.initialized C ∈ x_Ts) (kk : ∀ n2 sl2 SH2 F2 G2 R2, sl2 = sl + N → g_nw n SH FI FL FR t 0 n2 SH2 F2 G2 R2 → hw sk base d X j (pc + 3) L (.ref (base + n) :: st) (n2, sl2, SH2, F2, G2, R2) Φ) : hw sk base d X j pc L st (n, sl, SH, FI, FL, FR) Φ := hw_new q ht hl hi (kk _ _ _ _ _ _ rfl (g_nw_i hS hF hI hR hd))
theorem hv_newa {sk : xK} {aty : ArrayType} {k z : Nat} {m : Int32} (hS : h_S n SH) (hF : h_FR FR) (hI : g_I FI) (hR : g_R n SH FR) (hd : g_dt (100 + k)) (q : x_at xMM j pc (.newarray aty) 2 y nL ret) (hk : x_kn[k]? = some (Jvm.Op.newarray.typeOf aty)) (hk2 : k < 3) (hl : Cond.arrayClass (Jvm.Op.newarray.typeOf aty) ∈ x_Ts) (hm : ¬ m < 0) (hz : m.toNatClampNeg = z) (hb : z * 8 ≤ 536870912) (kk : ∀ n2 sl2 SH2 F2 G2 R2, sl2 = sl + z → g_nw n SH FI FL FR (100 + k) z n2 SH2 F2 G2 R2 → hw sk base d X j (pc + 2) L (.ref (base + n) :: st) (n2, sl2, SH2, F2, G2, R2) Φ) : hw sk base d X j pc L (.int m :: st) (n, sl, SH, FI, FL, FR) Φ := hw_newa q hk hk2 hl hm hz hb (kk _ _ _ _ _ _ rfl (g_nw_i hS hF hI hR hd))
theorem hv_newq {sk : xK} {idx k z : Nat} {C : String} {m : Int32} (hS : h_S n SH) (hF : h_FR FR) (hI : g_I FI) (hR : g_R n SH FR) (hd : g_dt (100 + k)) (q : x_at xMM j pc (.anewarray idx) 3 y nL ret) (hk : x_kn[k]? = some (.object C)) (hk3 : 3 ≤ k) (hl : Cond.classLink y.cls idx C ∈ x_Ts) (ha : Cond.arrayOver (.object C) ∈ x_AO) (hm : ¬ m < 0) (hz : m.toNatClampNeg = z) (hb : z * 4 ≤ 536870912) (kk : ∀ n2 sl2 SH2 F2 G2 R2, sl2 = sl + z → g_nw n SH FI FL FR (100 + k) z n2 SH2 F2 G2 R2 → hw sk base d X j (pc + 3) L (.ref (base + n) :: st) (n2, sl2, SH2, F2, G2, R2) Φ) : hw sk base d X j pc L (.int m :: st) (n, sl, SH, FI, FL, FR) Φ := hw_newq q hk hk3 hl ha hm hz hb (kk _ _ _ _ _ _ rfl (g_nw_i hS hF hI hR hd))
theorem hv_aast {sk : xK} {c v k z ci zv N i2 : Nat} {i : Int32} {C : String} {T : u_T} (q : x_at xMM j pc .aastore 1 y nL ret) (hc : c < n) (hs : SH c = (100 + k, z)) (hk : x_kn[k]? = some (.object C)) (hk3 : 3 ≤ k) (hcv : v < n) (hsv : SH v = (ci, zv)) (hci : vwCl[ci]? = some (C, T, N)) (hin : vp_in i z) (hi2 : i.toNatClampNeg = i2) (kk : ∀ F2, F2 = h_up FR c i2 (some v) → hw sk base d X j (pc + 1) L st (n, sl, SH, FI, FL, F2) Φ) : hw sk base d X j pc L (.ref (base + v) :: .int i :: .ref (base + c) :: st) (n, sl, SH, FI, FL, FR) Φ := by
  subst hi2
  exact hw_aast q hc hs hk hk3 hcv hsv hci hin (kk _ rfl)
theorem hv_aastI {sk : xK} {c v z zv i2 : Nat} {i : Int32} (q : x_at xMM j pc .aastore 1 y nL ret) (hc : c < n) (hs : SH c = (106, z)) (hA : Cond.arrayOver (.array .int) ∈ x_AO) (hcv : v < n) (hsv : SH v = (100, zv)) (hin : vp_in i z) (hi2 : i.toNatClampNeg = i2) (kk : ∀ F2, F2 = h_up FR c i2 (some v) → hw sk base d X j (pc + 1) L st (n, sl, SH, FI, FL, F2) Φ) : hw sk base d X j pc L (.ref (base + v) :: .int i :: .ref (base + c) :: st) (n, sl, SH, FI, FL, FR) Φ := by
  subst hi2
  exact hw_aastI q hc hs hA hcv hsv hin (kk _ rfl)
end AV
theorem i_cn {x : Int32} (h : 0 ≤ x.toInt) : (x.toNatClampNeg : Int) = x.toInt := by
  show ((x.toInt.toNat : Nat) : Int) = x.toInt
  omega
theorem gf_lo {α : Type} {F F2 : Nat → Nat → α} {n0 c : Nat} {S : Nat → Nat × Nat} {L : List (Nat × Nat)} {A T : List Nat} (h : g_fr c S L A T F F2) (hn : n0 ≤ c) : g_fr n0 S L A T F F2 := fun c2 k h1 h2 h3 h4 => h c2 k (by omega) h2 h3 h4
theorem i_nn {x : Int32} (h : 0 ≤ x.toInt) : ¬ x < 0 := by
  rw [Int32.lt_iff_toInt_lt]
  have : (0 : Int32).toInt = 0 := by decide
  omega
section AF
variable {base d : Nat} {X : Option (Nat × Nat × (Nat → Int32))} {j : Nat} {y : MethodName} {nL : Nat} {ret : Option FieldType} {pc : Nat} {L : xL} {st : List Value} {Φ : Option Value → hS → Prop} {n sl : Nat} {SH : Nat → Nat × Nat} {FI : Nat → Nat → Int32} {FL : Nat → Nat → Int64} {FR : Nat → Nat → Option Nat}
theorem hv_putiF {sk : xK} {idx t k N c z : Nat} {C : String} {T : u_T} {x : Int32} (q : x_at xMM j pc (.putfield idx) 3 y nL ret) (hf : x_fl vwCl x_Ts x_AO y.cls idx t k C T N) (hc : c < n) (hs : SH c = (t, z)) (ht : t < 100) (hty : h_ty t k = .int) (hfin : (T k).2.2.2 = true ∧ y.name = "<init>" ∧ (T k).1 = y.cls ∧ Cond.fieldLink y.cls idx (T k).1 (T k).2.1 (T k).2.2.1 ∈ x_Ts) (kk : ∀ F2, F2 = h_up FI c k x → hw sk base d X j (pc + 3) L st (n, sl, SH, F2, FL, FR) Φ) : hw sk base d X j pc L (.int x :: .ref (base + c) :: st) (n, sl, SH, FI, FL, FR) Φ := by
  refine hw_put q hf hc hs ht (by rw [hty]; rfl) (by rw [hty]; rfl) (Or.inr hfin) (f' := va_up (FI c) k x) (g' := FL c) (r' := FR c) (by rw [hty]; simp [h_fv, va_up]) (fun i hi => ⟨by simp [va_up, hi], rfl, rfl⟩) ?_
  rw [h_same FL, h_same FR]
  exact kk _ rfl
end AF
end
section
def nX3_init : Nat := 0xb10d00b5202a0700b51b2a0100b72a
theorem bX3_init : cX3_init.data.toList.map UInt8.toNat = x_un nX3_init 15 := by decide +kernel
def iX3_init : List (Nat × Jvm.ClassFile.Instr × Nat) := [(0, .aload_n 0, 1), (1, .invokespecial 1, 3), (4, .aload_n 0, 1), (5, .iload_n 1, 1), (6, .putfield 7, 3), (9, .aload_n 0, 1), (10, .lload_n 2, 1), (11, .putfield 13, 3), (14, .return_, 1)]
theorem dX3_init : x_il nX3_init 15 iX3_init = true := by decide +kernel
theorem aX3_init (k : Nat) {pc : Nat} {i : Jvm.ClassFile.Instr} {len : Nat} (hk : iX3_init[k]? = some (pc, i, len)) : x_at xMM 34 pc i len yX3_init 4 none := ⟨cX3_init, rfl, x_il_ok bX3_init dX3_init k hk⟩
set_option maxHeartbeats 4000000 in
set_option maxRecDepth 100000 in
theorem k_X3_init {sk : xK} {base d n sl : Nat} {SH : Nat → Nat × Nat} {FI : Nat → Nat → Int32} {FL : Nat → Nat → Int64} {FR : Nat → Nat → Option Nat} (hS : h_S n SH) (hF : h_FR FR) (hI : g_I FI) (hR : g_R n SH FR) (c : Nat) {zc : Nat} (hc : c < n) (hsc : SH c = (3, zc)) (hoc : own c) (hdc : 176 ≤ c) (a1 : Int32) (a2 : Int64) : hw sk base (d + 1) none 34 0 [(0, .ref (base + c)), (1, .int (a1)), (2, .long (a2))] [] (n, sl, SH, FI, FL, FR) (h_V (fun s => ∃ FI' FL', s = (n, sl, SH, FI', FL', FR) ∧ g_I FI' ∧ g_fr c (shd SH) [] [] [] FI FI' ∧ g_fr c (shd SH) [] [] [] FL FL' ∧ ((FI' c 0).toInt = (a1).toInt))) := by
  have rg_a1 := i_rng a1
  have rg_a2 := l_rng a2
  obtain ⟨x1, h2⟩ : ∃ y, FI c 0 = y := ⟨_, rfl⟩
  have h2l := congrArg Int32.toInt h2
  have := i_rng x1
  refine hw_aloadn (aX3_init 0 rfl) rfl ?_
  refine hw_obj (aX3_init 1 rfl) (tin_5 (i := 93) rfl rfl) (tin_1 (i := 28) rfl rfl) (tin_1 (i := 29) rfl rfl) (Nat.le_of_ble_eq_true rfl) ?_
  refine hw_aloadn (aX3_init 2 rfl) rfl ?_
  refine xw_iloadn (aX3_init 3 rfl) rfl ?_
  refine hv_putiF (aX3_init 4 rfl) wf_RX3_7 hc hsc (by decide) rfl ⟨rfl, rfl, rfl, wf_RX3_7F⟩ (fun FI3 u4 => ?_)
  have hI5 : g_I FI3 := gU_F hI u4 (g_hi (dyn_tag hS hsc (by decide +kernel)))
  refine hw_aloadn (aX3_init 5 rfl) rfl ?_
  refine xw_lloadn (aX3_init 6 rfl) rfl ?_
  refine hv_putl (aX3_init 7 rfl) wf_RX3_13 hc hsc (by decide) rfl rfl (fun FL6 u7 => ?_)
  refine xw_vret (aX3_init 8 rfl) rfl ?_
  exact ⟨rfl, FI3, FL6, rfl, hI5, (gf_n gf_rf u4 (Nat.le_refl _)), (gf_n gf_rf u7 (Nat.le_refl _)), (by have := congrArg Int32.toInt (show FI3 c 0 = a1 from up_eq u4); omega)⟩
def nX6_init : Nat := 0xb10900b5022a0300b72a
theorem bX6_init : cX6_init.data.toList.map UInt8.toNat = x_un nX6_init 10 := by decide +kernel
def iX6_init : List (Nat × Jvm.ClassFile.Instr × Nat) := [(0, .aload_n 0, 1), (1, .invokespecial 3, 3), (4, .aload_n 0, 1), (5, .iconst (-1), 1), (6, .putfield 9, 3), (9, .return_, 1)]
theorem dX6_init : x_il nX6_init 10 iX6_init = true := by decide +kernel
theorem aX6_init (k : Nat) {pc : Nat} {i : Jvm.ClassFile.Instr} {len : Nat} (hk : iX6_init[k]? = some (pc, i, len)) : x_at xMM 63 pc i len yX6_init 1 none := ⟨cX6_init, rfl, x_il_ok bX6_init dX6_init k hk⟩
set_option maxHeartbeats 4000000 in
set_option maxRecDepth 100000 in
theorem k_X6_init {sk : xK} {base d n sl : Nat} {SH : Nat → Nat × Nat} {FI : Nat → Nat → Int32} {FL : Nat → Nat → Int64} {FR : Nat → Nat → Option Nat} (hS : h_S n SH) (hF : h_FR FR) (hI : g_I FI) (hR : g_R n SH FR) (c : Nat) {zc : Nat} (hc : c < n) (hsc : SH c = (6, zc)) (hoc : own c) (hdc : 176 ≤ c) : hw sk base (d + 1) none 63 0 [(0, .ref (base + c))] [] (n, sl, SH, FI, FL, FR) (h_V (fun s => ∃ FI', s = (n, sl, SH, FI', FL, FR) ∧ g_I FI' ∧ g_fr c (shd SH) [] [] [] FI FI')) := by
  refine hw_aloadn (aX6_init 0 rfl) rfl ?_
  refine hw_obj (aX6_init 1 rfl) (tin_5 (i := 35) rfl rfl) (tin_1 (i := 28) rfl rfl) (tin_1 (i := 29) rfl rfl) (Nat.le_of_ble_eq_true rfl) ?_
  refine hw_aloadn (aX6_init 2 rfl) rfl ?_
  refine hw_ic (v := ((-1) : Int32)) (aX6_init 3 rfl) (by decide) ?_
  refine hv_puti (aX6_init 4 rfl) wf_RX6_9 hc hsc (by decide) rfl rfl (fun FI1 u2 => ?_)
  have hI3 : g_I FI1 := gU_F hI u2 (g_hi (dyn_tag hS hsc (by decide +kernel)))
  refine xw_vret (aX6_init 5 rfl) rfl ?_
  exact ⟨rfl, FI1, rfl, hI3, (gf_n gf_rf u2 (Nat.le_refl _))⟩
def nX10_init : Nat := 0xb11d00b51c2a1a00b52b2a1600b50abc032a1200b51000bd08102a0d00b50bbc08102a0900b50bbc08102a0100b72a
theorem bX10_init : cX10_init.data.toList.map UInt8.toNat = x_un nX10_init 47 := by decide +kernel
def iX10_init : List (Nat × Jvm.ClassFile.Instr × Nat) := [(0, .aload_n 0, 1), (1, .invokespecial 1, 3), (4, .aload_n 0, 1), (5, .bipush 8, 2), (7, .newarray .long, 2), (9, .putfield 9, 3), (12, .aload_n 0, 1), (13, .bipush 8, 2), (15, .newarray .long, 2), (17, .putfield 13, 3), (20, .aload_n 0, 1), (21, .bipush 8, 2), (23, .anewarray 16, 3), (26, .putfield 18, 3), (29, .aload_n 0, 1), (30, .iconst 0, 1), (31, .newarray .int, 2), (33, .putfield 22, 3), (36, .aload_n 0, 1), (37, .aload_n 1, 1), (38, .putfield 26, 3), (41, .aload_n 0, 1), (42, .iload_n 2, 1), (43, .putfield 29, 3), (46, .return_, 1)]
theorem dX10_init : x_il nX10_init 47 iX10_init = true := by decide +kernel
theorem aX10_init (k : Nat) {pc : Nat} {i : Jvm.ClassFile.Instr} {len : Nat} (hk : iX10_init[k]? = some (pc, i, len)) : x_at xMM 116 pc i len yX10_init 3 none := ⟨cX10_init, rfl, x_il_ok bX10_init dX10_init k hk⟩
set_option maxHeartbeats 4000000 in
set_option maxRecDepth 100000 in
theorem k_X10_init {sk : xK} {base d n sl : Nat} {SH : Nat → Nat × Nat} {FI : Nat → Nat → Int32} {FL : Nat → Nat → Int64} {FR : Nat → Nat → Option Nat} (hS : h_S n SH) (hF : h_FR FR) (hI : g_I FI) (hR : g_R n SH FR) (c : Nat) {zc : Nat} (hc : c < n) (hsc : SH c = (10, zc)) (hoc : own c) (hdc : 176 ≤ c) (a1 : Nat) {z1 : Nat} (ha1l : a1 < n) (ha1s : SH a1 = (100, z1)) (ha1o : own a1) (a2 : Int32) (gg0 : 176 ≤ a1) : hw sk base (d + 1) none 116 0 [(0, .ref (base + c)), (1, .ref (base + a1)), (2, .int (a2))] [] (n, sl, SH, FI, FL, FR) (h_V (fun s => ∃ n' sl' SH' FI' FL' FR', s = (n', sl', SH', FI', FL', FR') ∧ g_ex n SH n' SH' ∧ h_S n' SH' ∧ g_I FI' ∧ g_fr c (shd SH) [] [] [] FI FI' ∧ g_fr c (shd SH) [] [] [] FL FL' ∧ g_fr c (shd SH) [] [] [] FR FR' ∧ h_FR FR' ∧ g_R n' SH' FR' ∧ (n' = n + 4) ∧ (sl' = sl + 24) ∧ (g_Vv SH' FR' c) ∧ (∃ k, FR' c 6 = some k))) := by
  have rg_a2 := i_rng a2
  refine hw_aloadn (aX10_init 0 rfl) rfl ?_
  refine hw_obj (aX10_init 1 rfl) (tin_4 (i := 204) rfl rfl) (tin_1 (i := 28) rfl rfl) (tin_1 (i := 29) rfl rfl) (Nat.le_of_ble_eq_true rfl) ?_
  refine hw_aloadn (aX10_init 2 rfl) rfl ?_
  refine hw_bp (v := (8 : Int32)) (aX10_init 3 rfl) (by decide) ?_
  refine hv_newa (k := 1) (z := 8) hS hF hI hR (by unfold g_dt; omega) (aX10_init 4 rfl) rfl (by decide) (tin_1 (i := 150) rfl rfl) (by decide) (by decide) (by decide) (fun n1 sl2 SH3 FI4 FL5 FR6 hsl7 nw8 => ?_)
  obtain ⟨hn9, ex10, hS11, hF12, hI13, hR14, lt15, sh16, dy17, eI18, eL19, eR20, zI21, zL22, zR23⟩ := nw8
  have lt24 := ex_lt ex10 ha1l
  have sh25 := ex_sh ex10 ha1l ha1s
  have lt26 := ex_lt ex10 hc
  have sh27 := ex_sh ex10 hc hsc
  refine hv_putr (r := some (n)) (aX10_init 5 rfl) wf_RX10_9 lt26 sh27 (by decide) (by first | exact Or.inl ⟨_, rfl⟩ | exact Or.inr ⟨_, rfl⟩) (Or.inr ⟨rfl, rfl, rfl, wf_RX10_9F⟩) (fun FR28 u29 => ?_)
  have hF30 : h_FR FR28 := hF_up hS11 hF12 u29 sh27 (by decide +kernel)
  have hR31 : g_R n1 SH3 FR28 := gR_up hR14 u29 sh27 (fun r e => by cases e; exact ⟨lt15, (Or.inr dy17), by rw [sh16]; rfl⟩) (fun _ r e => by cases e; exact dy17) (fun _ => by simp) (fun h => absurd h.1 (ne_tag sh27 (s49 hS11) (by decide)))
  refine hw_aloadn (aX10_init 6 rfl) rfl ?_
  refine hw_bp (v := (8 : Int32)) (aX10_init 7 rfl) (by decide) ?_
  refine hv_newa (k := 1) (z := 8) hS11 hF30 hI13 hR31 (by unfold g_dt; omega) (aX10_init 8 rfl) rfl (by decide) (tin_1 (i := 150) rfl rfl) (by decide) (by decide) (by decide) (fun n32 sl33 SH34 FI35 FL36 FR37 hsl38 nw39 => ?_)
  obtain ⟨hn40, ex41, hS42, hF43, hI44, hR45, lt46, sh47, dy48, eI49, eL50, eR51, zI52, zL53, zR54⟩ := nw39
  have lt55 := ex_lt ex41 lt24
  have sh56 := ex_sh ex41 lt24 sh25
  have lt57 := ex_lt ex41 lt26
  have sh58 := ex_sh ex41 lt26 sh27
  have lt59 := ex_lt ex41 lt15
  have sh60 := ex_sh ex41 lt15 sh16
  have ex61 := ex_tr ex10 ex41
  refine hv_putr (r := some (n1)) (aX10_init 9 rfl) wf_RX10_13 lt57 sh58 (by decide) (by first | exact Or.inl ⟨_, rfl⟩ | exact Or.inr ⟨_, rfl⟩) (Or.inr ⟨rfl, rfl, rfl, wf_RX10_13F⟩) (fun FR62 u63 => ?_)
  have hF64 : h_FR FR62 := hF_up hS42 hF43 u63 sh58 (by decide +kernel)
  have hR65 : g_R n32 SH34 FR62 := gR_up hR45 u63 sh58 (fun r e => by cases e; exact ⟨lt46, (Or.inr dy48), by rw [sh47]; rfl⟩) (fun _ r e => by cases e; exact dy48) (fun _ => by simp) (fun h => absurd h.1 (ne_tag sh58 (s49 hS42) (by decide)))
  refine hw_aloadn (aX10_init 10 rfl) rfl ?_
  refine hw_bp (v := (8 : Int32)) (aX10_init 11 rfl) (by decide) ?_
  refine hv_newq (k := 5) (z := 8) hS42 hF64 hI44 hR65 (by unfold g_dt; omega) (aX10_init 12 rfl) rfl (by decide) (tin_4 (i := 205) rfl rfl) (nin_4 (i := 206) rfl rfl) (by decide) (by decide) (by decide) (fun n66 sl67 SH68 FI69 FL70 FR71 hsl72 nw73 => ?_)
  obtain ⟨hn74, ex75, hS76, hF77, hI78, hR79, lt80, sh81, dy82, eI83, eL84, eR85, zI86, zL87, zR88⟩ := nw73
  have lt89 := ex_lt ex75 lt55
  have sh90 := ex_sh ex75 lt55 sh56
  have lt91 := ex_lt ex75 lt57
  have sh92 := ex_sh ex75 lt57 sh58
  have lt93 := ex_lt ex75 lt59
  have sh94 := ex_sh ex75 lt59 sh60
  have lt95 := ex_lt ex75 lt46
  have sh96 := ex_sh ex75 lt46 sh47
  have ex97 := ex_tr ex61 ex75
  refine hv_putr (r := some (n32)) (aX10_init 13 rfl) wf_RX10_18 lt91 sh92 (by decide) (by first | exact Or.inl ⟨_, rfl⟩ | exact Or.inr ⟨_, rfl⟩) (Or.inr ⟨rfl, rfl, rfl, wf_RX10_18F⟩) (fun FR98 u99 => ?_)
  have hF100 : h_FR FR98 := hF_up hS76 hF77 u99 sh92 (by decide +kernel)
  have hR101 : g_R n66 SH68 FR98 := gR_up hR79 u99 sh92 (fun r e => by cases e; exact ⟨lt80, (Or.inr dy82), by rw [sh81]; rfl⟩) (fun _ r e => by cases e; exact (dyn_tag hS76 sh81 (by decide +kernel))) (fun _ => by simp) (fun h => absurd h.1 (ne_tag sh92 (s49 hS76) (by decide)))
  refine hw_aloadn (aX10_init 14 rfl) rfl ?_
  refine hw_ic (v := (0 : Int32)) (aX10_init 15 rfl) (by decide) ?_
  refine hv_newa (k := 0) (z := 0) hS76 hF100 hI78 hR101 (by unfold g_dt; omega) (aX10_init 16 rfl) rfl (by decide) (tin_1 (i := 149) rfl rfl) (by decide) (by decide) (by decide) (fun n102 sl103 SH104 FI105 FL106 FR107 hsl108 nw109 => ?_)
  obtain ⟨hn110, ex111, hS112, hF113, hI114, hR115, lt116, sh117, dy118, eI119, eL120, eR121, zI122, zL123, zR124⟩ := nw109
  have lt125 := ex_lt ex111 lt89
  have sh126 := ex_sh ex111 lt89 sh90
  have lt127 := ex_lt ex111 lt91
  have sh128 := ex_sh ex111 lt91 sh92
  have lt129 := ex_lt ex111 lt93
  have sh130 := ex_sh ex111 lt93 sh94
  have lt131 := ex_lt ex111 lt95
  have sh132 := ex_sh ex111 lt95 sh96
  have lt133 := ex_lt ex111 lt80
  have sh134 := ex_sh ex111 lt80 sh81
  have ex135 := ex_tr ex97 ex111
  refine hv_putr (r := some (n66)) (aX10_init 17 rfl) wf_RX10_22 lt127 sh128 (by decide) (by first | exact Or.inl ⟨_, rfl⟩ | exact Or.inr ⟨_, rfl⟩) (Or.inl rfl) (fun FR136 u137 => ?_)
  have hF138 : h_FR FR136 := hF_up hS112 hF113 u137 sh128 (by decide +kernel)
  have hR139 : g_R n102 SH104 FR136 := gR_up hR115 u137 sh128 (fun r e => by cases e; exact ⟨lt116, (Or.inr dy118), by rw [sh117]; rfl⟩) (fun _ r e => by cases e; exact dy118) (fun _ => by simp) (fun h => absurd h.1 (ne_tag sh128 (s49 hS112) (by decide)))
  refine hw_aloadn (aX10_init 18 rfl) rfl ?_
  refine hw_aloadn (aX10_init 19 rfl) rfl ?_
  refine hv_putr (r := some (a1)) (aX10_init 20 rfl) wf_RX10_26 lt127 sh128 (by decide) (by first | exact Or.inl ⟨_, rfl⟩ | exact Or.inr ⟨_, rfl⟩) (Or.inr ⟨rfl, rfl, rfl, wf_RX10_26F⟩) (fun FR140 u141 => ?_)
  have hF142 : h_FR FR140 := hF_up hS112 hF138 u141 sh128 (by decide +kernel)
  have hR143 : g_R n102 SH104 FR140 := gR_up hR139 u141 sh128 (fun r e => by cases e; exact ⟨lt125, ha1o, by rw [sh126]; rfl⟩) (fun _ r e => by cases e; exact gg0) (fun _ => by simp) (fun h => absurd h.1 (ne_tag sh128 (s49 hS112) (by decide)))
  refine hw_aloadn (aX10_init 21 rfl) rfl ?_
  refine xw_iloadn (aX10_init 22 rfl) rfl ?_
  refine hv_putiF (aX10_init 23 rfl) wf_RX10_29 lt127 sh128 (by decide) rfl ⟨rfl, rfl, rfl, wf_RX10_29F⟩ (fun FI144 u145 => ?_)
  have hI146 : g_I FI144 := gU_F hI114 u145 (g_hi (dyn_tag hS112 sh128 (by decide +kernel)))
  refine xw_vret (aX10_init 24 rfl) rfl ?_
  exact ⟨rfl, n102, sl103, SH104, FI144, FL106, FR140, rfl, ex135, hS112, hI146, (gf_n (gf_al (gf_al (gf_al (gf_al gf_rf (Nat.le_trans (Nat.le_of_lt hc) (Nat.le_refl _)) eI18) (Nat.le_trans (Nat.le_of_lt hc) (ex10).1) eI49) (Nat.le_trans (Nat.le_of_lt hc) (ex61).1) eI83) (Nat.le_trans (Nat.le_of_lt hc) (ex97).1) eI119) u145 (Nat.le_refl _)), (gf_al (gf_al (gf_al (gf_al gf_rf (Nat.le_trans (Nat.le_of_lt hc) (Nat.le_refl _)) eL19) (Nat.le_trans (Nat.le_of_lt hc) (ex10).1) eL50) (Nat.le_trans (Nat.le_of_lt hc) (ex61).1) eL84) (Nat.le_trans (Nat.le_of_lt hc) (ex97).1) eL120), (gf_n (gf_n (gf_al (gf_n (gf_al (gf_n (gf_al (gf_n (gf_al gf_rf (Nat.le_trans (Nat.le_of_lt hc) (Nat.le_refl _)) eR20) u29 (Nat.le_refl _)) (Nat.le_trans (Nat.le_of_lt hc) (ex10).1) eR51) u63 (Nat.le_refl _)) (Nat.le_trans (Nat.le_of_lt hc) (ex61).1) eR85) u99 (Nat.le_refl _)) (Nat.le_trans (Nat.le_of_lt hc) (ex97).1) eR121) u137 (Nat.le_refl _)) u141 (Nat.le_refl _)), hF142, hR143, (by omega), (by omega), (by exact ⟨⟨_, (up_k u141 (by decide) ((up_k u137 (by decide) (((eR121 c (2) (Nat.ne_of_lt lt91)).trans ((up_k u99 (by decide) (((eR85 c (2) (Nat.ne_of_lt lt57)).trans ((up_k u63 (by decide) (((eR51 c (2) (Nat.ne_of_lt lt26)).trans (up_eq u29)))))))))))))), sh130⟩, ⟨_, (up_k u141 (by decide) ((up_k u137 (by decide) (((eR121 c (3) (Nat.ne_of_lt lt91)).trans ((up_k u99 (by decide) (((eR85 c (3) (Nat.ne_of_lt lt57)).trans (up_eq u63)))))))))), sh132⟩, ⟨_, (up_k u141 (by decide) ((up_k u137 (by decide) (((eR121 c (4) (Nat.ne_of_lt lt91)).trans (up_eq u99)))))), sh134⟩, ⟨_, up_eq u141⟩⟩), (by exact ⟨_, (up_k u141 (by decide) (up_eq u137))⟩)⟩
end
section
/-! Strings, copies of arrays. -/
theorem s_n : ∀ k, k < 11 → (Int32.ofNat (x_strN.getD k 0)).toInt = ((x_strN.getD k 0 : Nat) : Int) ∧ x_strN.getD k 0 ≤ 22 := by decide
theorem i_sh0 {x y : Int32} {A : Int} (hx : x.toInt = A) (hy : y.toInt = 0) : (x >>> (y &&& 31)).toInt = A := by
  have e : y = 0 := Int32.toInt_inj.mp (by rw [hy]; rfl)
  subst e
  rw [← hx]
  simp
theorem i_ofl {z : Nat} (h : z < 2147483648) : (Int32.ofNat z).toInt = (z : Int) := by
  rw [Int32.toInt_ofNat', show Int32.size = 4294967296 from rfl, Int.bmod_eq_of_le (by omega) (by omega)]
theorem gI_off {FI F2 : Nat → Nat → Int32} {c1 : Nat} (hI : g_I FI) (h : 176 ≤ c1) (e : ∀ c k, c ≠ c1 → F2 c k = FI c k) : g_I F2 := fun c k => by
  by_cases hc : c = c1
  · subst hc; exact g_full (g_hi h)
  · rw [e c k hc]; exact hI c k
/-- what holds behind a copy of an int[] of z places -/
def g_nc (n : Nat) (SH : Nat → Nat × Nat) (FI : Nat → Nat → Int32) (FL : Nat → Nat → Int64) (FR : Nat → Nat → Option Nat) (t z n2 : Nat) (SH2 : Nat → Nat × Nat) (F2 : Nat → Nat → Int32) (G2 : Nat → Nat → Int64) (R2 : Nat → Nat → Option Nat) : Prop :=
  n2 = n + 1 ∧ g_ex n SH n2 SH2 ∧ h_S n2 SH2 ∧ h_FR R2 ∧ g_I F2 ∧ g_R n2 SH2 R2 ∧ n < n2 ∧ SH2 n = (t, z) ∧ 176 ≤ n ∧ (∀ c k, c ≠ n → F2 c k = FI c k) ∧ (∀ c k, c ≠ n → G2 c k = FL c k) ∧ (∀ c k, c ≠ n → R2 c k = FR c k) ∧ True ∧ (∀ k, G2 n k = 0) ∧ ∀ k, R2 n k = none
theorem g_nc_i {n z t : Nat} {SH : Nat → Nat × Nat} {FI : Nat → Nat → Int32} {FL : Nat → Nat → Int64} {FR : Nat → Nat → Option Nat} {f : Nat → Int32} (hS : h_S n SH) (hF : h_FR FR) (hI : g_I FI) (hR : g_R n SH FR) (hd : g_dt t) : g_nc n SH FI FL FR t z (n + 1) (va_up SH n (t, z)) (va_up FI n f) (va_up FL n (fun _ => 0)) (va_up FR n (fun _ => none)) := by
  obtain ⟨a1, a2, a3, a4, a5, a6, a7, a8, a9, b1, b2, b3, b4, b5, b6⟩ := g_nw_i (z := z) (FL := FL) hS hF hI hR hd
  have eI : ∀ c k, c ≠ n → va_up FI n f c k = FI c k := fun c k h => by simp [va_up, h]
  exact ⟨a1, a2, a3, a4, gI_off hI a9 eI, a6, a7, a8, a9, eI, b2, b3, trivial, b5, b6⟩
section SR
variable {base d : Nat} {X : Option (Nat × Nat × (Nat → Int32))} {j : Nat} {y : MethodName} {nL : Nat} {ret : Option FieldType} {pc : Nat} {L : xL} {st : List Value} {Φ : Option Value → hS → Prop} {n sl : Nat} {SH : Nat → Nat × Nat} {FI : Nat → Nat → Int32} {FL : Nat → Nat → Int64} {FR : Nat → Nat → Option Nat}
theorem hw_tiP {sk : xK} {s : hS} {x : Int32} {P : Int32 → Prop} (h : P x) (k : ∀ y, P y → hw sk base d X j pc L (.int y :: st) s Φ) : hw sk base d X j pc L (.int x :: st) s Φ := k x h
theorem hv_clone {sk : xK} {idx c z : Nat} (hS : h_S n SH) (hF : h_FR FR) (hI : g_I FI) (hR : g_R n SH FR) (q : x_at xMM j pc (.invokevirtual idx) 3 y nL ret) (w1 : Cond.methodLink y.cls idx ⟨"[I", "clone", "()Ljava/lang/Object;"⟩ ∈ x_Ts) (w2 : Cond.sameMethod "[I" "java/lang/Object" "clone" "()Ljava/lang/Object;" ∈ x_Ts) (w3 : Cond.native ⟨"java/lang/Object", "clone", "()Ljava/lang/Object;"⟩ ∈ x_Ts) (w4 : Cond.instanceMethod ⟨"java/lang/Object", "clone", "()Ljava/lang/Object;"⟩ ∈ x_Ts) (w5 : Cond.selects "[I" ⟨"[I", "clone", "()Ljava/lang/Object;"⟩ ⟨"java/lang/Object", "clone", "()Ljava/lang/Object;"⟩ ∈ x_Ts) (w6 : Cond.castable "[I" "java/lang/Cloneable" ∈ x_AO) (hc : c < n) (hs : SH c = (100, z)) (hsum : (st.map fun v => v.category).sum ≤ 8) (kk : ∀ n2 sl2 SH2 F2 G2 R2, sl2 = sl + z → g_nc n SH FI FL FR 100 z n2 SH2 F2 G2 R2 → hw sk base (d + 1) X j (pc + 3) L (.ref (base + n) :: st) (n2, sl2, SH2, F2, G2, R2) Φ) : hw sk base (d + 1) X j pc L (.ref (base + c) :: st) (n, sl, SH, FI, FL, FR) Φ := hw_clone q w1 w2 w3 w4 w5 w6 hc hs hsum (kk _ _ _ _ _ _ rfl (g_nc_i hS hF hI hR (by unfold g_dt; omega)))
theorem hv_cpy {sk : xK} {idx c0 c1 z0 z1 : Nat} {sp dp m : Int32} (q : x_at xMM j pc (.invokestatic idx) 3 y nL ret) (w1 : Cond.methodLink y.cls idx arraycopyName ∈ x_Ts) (w2 : Cond.native arraycopyName ∈ x_Ts) (w3 : Cond.static arraycopyName ∈ x_Ts) (w4 : Cond.initialized "java/lang/System" ∈ x_Ts) (hc0 : c0 < n) (hs0 : SH c0 = (100, z0)) (hc1 : c1 < n) (hs1 : SH c1 = (100, z1)) (h1 : ¬ sp < 0) (h2 : ¬ dp < 0) (h3 : ¬ m < 0) (h4 : sp.toNatClampNeg + m.toNatClampNeg ≤ z0) (h5 : dp.toNatClampNeg + m.toNatClampNeg ≤ z1) (hsum : (st.map fun v => v.category).sum ≤ 8) (kk : ∀ F2 : Nat → Nat → Int32, (∀ c k, c ≠ c1 → F2 c k = FI c k) → hw sk base (d + 1) X j (pc + 3) L st (n, sl, SH, F2, FL, FR) Φ) : hw sk base (d + 1) X j pc L (.int m :: .int dp :: .ref (base + c1) :: .int sp :: .ref (base + c0) :: st) (n, sl, SH, FI, FL, FR) Φ := hw_cpy q w1 w2 w3 w4 hc0 hs0 hc1 hs1 h1 h2 h3 h4 h5 hsum (kk _ (fun c k h => by simp [va_up, h]))
end SR
def nJ7_copyOf_59c91 : Nat := 0xb02c9600b83001b81bbe2a032c032a4d0abc1bb03d01c03c01b62a0b00a0be2a1b
theorem bJ7_copyOf_59c91 : cJ7_copyOf_59c91.data.toList.map UInt8.toNat = x_un nJ7_copyOf_59c91 33 := by decide +kernel
def iJ7_copyOf_59c91 : List (Nat × Jvm.ClassFile.Instr × Nat) := [(0, .iload_n 1, 1), (1, .aload_n 0, 1), (2, .arraylength, 1), (3, .if_icmp .ne 11, 3), (6, .aload_n 0, 1), (7, .invokevirtual 316, 3), (10, .checkcast 317, 3), (13, .areturn, 1), (14, .iload_n 1, 1), (15, .newarray .int, 2), (17, .astore_n 2, 1), (18, .aload_n 0, 1), (19, .iconst 0, 1), (20, .aload_n 2, 1), (21, .iconst 0, 1), (22, .aload_n 0, 1), (23, .arraylength, 1), (24, .iload_n 1, 1), (25, .invokestatic 304, 3), (28, .invokestatic 150, 3), (31, .aload_n 2, 1), (32, .areturn, 1)]
theorem dJ7_copyOf_59c91 : x_il nJ7_copyOf_59c91 33 iJ7_copyOf_59c91 = true := by decide +kernel
theorem aJ7_copyOf_59c91 (k : Nat) {pc : Nat} {i : Jvm.ClassFile.Instr} {len : Nat} (hk : iJ7_copyOf_59c91[k]? = some (pc, i, len)) : x_at xMM 297 pc i len yJ7_copyOf_59c91 3 (some (.array .int)) := ⟨cJ7_copyOf_59c91, rfl, x_il_ok bJ7_copyOf_59c91 dJ7_copyOf_59c91 k hk⟩
set_option maxHeartbeats 4000000 in
set_option maxRecDepth 100000 in
theorem k_copyOf19 {sk : xK} {base d n sl : Nat} {SH : Nat → Nat × Nat} {FI : Nat → Nat → Int32} {FL : Nat → Nat → Int64} {FR : Nat → Nat → Option Nat} (hS : h_S n SH) (hF : h_FR FR) (hI : g_I FI) (hR : g_R n SH FR) (a2 : Int32) (g0 : 0 ≤ (a2).toInt ∧ (a2).toInt ≤ 1001) : hw sk base (d + 1) none 297 0 [(0, .ref (base + 19)), (1, .int (a2))] [] (n, sl, SH, FI, FL, FR) (h_A base (fun r s => ∃ n' sl' SH' FI' FL' FR', s = (n', sl', SH', FI', FL', FR') ∧ g_ex n SH n' SH' ∧ h_S n' SH' ∧ g_I FI' ∧ g_fr n (shd SH) [] [] [] FI FI' ∧ g_fr n (shd SH) [] [] [] FL FL' ∧ g_fr n (shd SH) [] [] [] FR FR' ∧ h_FR FR' ∧ g_R n' SH' FR' ∧ (n' = n + 1) ∧ ((sl' : Int) = sl + (a2).toInt) ∧ (∀ q, r = some q → SH' q = (100, (a2).toNatClampNeg)) ∧ (∀ q, r = some q → q < n' ∧ own q ∧ SH' q = (100, (SH' q).2)) ∧ r ≠ none ∧ (∀ q, r = some q → n ≤ q))) := by
  have rg_a2 := i_rng a2
  refine xw_iloadn (aJ7_copyOf_59c91 0 rfl) rfl ?_
  refine hw_aloadn (aJ7_copyOf_59c91 1 rfl) rfl ?_
  refine hw_alen (k := 0) (z := 1000) (v := (1000 : Int32)) (aJ7_copyOf_59c91 2 rfl) (c19 hS) (s19 hS) (by decide) (by decide) ?_
  refine hw_icne (tgt := 14) (aJ7_copyOf_59c91 3 rfl) (by decide) rfl (by decide : (1000 : Int32).toInt = 1000) (fun cd1 => ?_) (fun cd1 => ?_)
  · refine xw_iloadn (aJ7_copyOf_59c91 8 rfl) rfl ?_
    have h03 : 0 ≤ (a2).toInt ∧ (a2).toInt ≤ 4000 := by omega
    have hz2 := i_cn h03.1
    refine hv_newa (k := 0) (z := (a2).toNatClampNeg) hS hF hI hR (by unfold g_dt; omega) (aJ7_copyOf_59c91 9 rfl) rfl (by decide) (tin_1 (i := 149) rfl rfl) (i_nn h03.1) rfl (by omega) (fun n4 sl5 SH6 FI7 FL8 FR9 hsl10 nw11 => ?_)
    obtain ⟨hn12, ex13, hS14, hF15, hI16, hR17, lt18, sh19, dy20, eI21, eL22, eR23, zI24, zL25, zR26⟩ := nw11
    refine hw_astoren (L2 := [(2, .ref (base + n)), (0, .ref (base + 19)), (1, .int (a2))]) (aJ7_copyOf_59c91 10 rfl) (by decide) rfl ?_
    refine hw_aloadn (aJ7_copyOf_59c91 11 rfl) rfl ?_
    refine hw_ic (v := (0 : Int32)) (aJ7_copyOf_59c91 12 rfl) (by decide) ?_
    refine hw_aloadn (aJ7_copyOf_59c91 13 rfl) rfl ?_
    refine hw_ic (v := (0 : Int32)) (aJ7_copyOf_59c91 14 rfl) (by decide) ?_
    refine hw_aloadn (aJ7_copyOf_59c91 15 rfl) rfl ?_
    refine hw_alen (k := 0) (z := 1000) (v := (1000 : Int32)) (aJ7_copyOf_59c91 16 rfl) (c19 hS14) (s19 hS14) (by decide) (by decide) ?_
    refine xw_iloadn (aJ7_copyOf_59c91 17 rfl) rfl ?_
    refine hw_callS (As := [.int ((1000 : Int32)), .int (a2)]) (rest := [.int ((0 : Int32)), .ref (base + n), .int ((0 : Int32)), .ref (base + 19)]) (aJ7_copyOf_59c91 18 rfl) wc_RJ7_304 (by decide) rfl wt_yJ9_min_7cf53 rfl rfl (Nat.le_of_ble_eq_true rfl) (Nat.le_of_ble_eq_true rfl) (k_J9_min_7cf53 (d := d) hS14 hF15 hI16 hR17 ((1000 : Int32)) (a2) ) (fun v27 sv28 p29 => ?_)
    have := ((by decide : (1000 : Int32).toInt = 1000) : ((1000 : Int32)).toInt = 1000)
    have := ((by decide : (1000 : Int32).toInt = 1000) : ((1000 : Int32)).toInt = 1000)
    obtain ⟨r30, rfl, rfl, t34, t35⟩ := p29
    have rg_r30 := i_rng r30
    show hw sk base _ _ _ _ _ [.int (r30), .int ((0 : Int32)), .ref (base + n), .int ((0 : Int32)), .ref (base + 19)] _ _
    have hc38 : 0 ≤ ((0 : Int32)).toInt ∧ (((0 : Int32)).toNatClampNeg : Int) = 0 := by decide
    have hc39 : 0 ≤ ((0 : Int32)).toInt ∧ (((0 : Int32)).toNatClampNeg : Int) = 0 := by decide
    have hc40z : 0 ≤ (r30).toInt := by omega
    have hc40 : 0 ≤ (r30).toInt ∧ ((r30).toNatClampNeg : Int) = (r30).toInt := ⟨hc40z, i_cn hc40z⟩
    refine hv_cpy (aJ7_copyOf_59c91 19 rfl) (tin_2 (i := 174) rfl rfl) (tin_2 (i := 176) rfl rfl) (tin_2 (i := 175) rfl rfl) (tin_1 (i := 13) rfl rfl) (c19 hS14) (s19 hS14) lt18 sh19 (i_nn hc38.1) (i_nn hc39.1) (i_nn hc40.1) (by have := ((by decide : (0 : Int32).toInt = 0) : ((0 : Int32)).toInt = 0); omega) (by have := ((by decide : (0 : Int32).toInt = 0) : ((0 : Int32)).toInt = 0); omega) (Nat.le_of_ble_eq_true rfl) (fun FI41 e42 => ?_)
    have hI43 := gI_off hI16 dy20 e42
    refine hw_aloadn (aJ7_copyOf_59c91 20 rfl) rfl ?_
    refine xw_aret (v := h_rf base (some (n))) (aJ7_copyOf_59c91 21 rfl) rfl (by first | exact Or.inl ⟨_, rfl⟩ | exact Or.inr ⟨_, rfl⟩) ?_
    exact ⟨some (n), rfl, n4, sl5, SH6, FI41, FL8, FR9, rfl, ex13, hS14, hI43, (gf_al (gf_al gf_rf (Nat.le_refl _) eI21) (Nat.le_refl _) e42), (gf_al gf_rf (Nat.le_refl _) eL22), (gf_al gf_rf (Nat.le_refl _) eR23), hF15, hR17, (by omega), (by omega), (by intro q e; cases e; have h9 := i_cn (x := a2) (by omega); exact (sh19).trans (Prod.ext rfl (by show _ = (a2).toNatClampNeg; omega))), ((fun r e => by cases e; exact ⟨lt18, (Or.inr dy20), by rw [sh19]⟩)), (by simp), (fun q e => by cases e; exact (Nat.le_refl _))⟩
  · refine hw_aloadn (aJ7_copyOf_59c91 4 rfl) rfl ?_
    refine hv_clone (z := 1000) hS hF hI hR (aJ7_copyOf_59c91 5 rfl) (tin_2 (i := 164) rfl rfl) (tin_2 (i := 165) rfl rfl) (tin_2 (i := 166) rfl rfl) (tin_2 (i := 167) rfl rfl) (tin_2 (i := 168) rfl rfl) (nin_2 (i := 169) rfl rfl) (c19 hS) (s19 hS) (Nat.le_of_ble_eq_true rfl) (fun n44 sl45 SH46 FI47 FL48 FR49 hsl50 nw51 => ?_)
    obtain ⟨hn52, ex53, hS54, hF55, hI56, hR57, lt58, sh59, dy60, eI61, eL62, eR63, zI64, zL65, zR66⟩ := nw51
    refine hw_cast (aJ7_copyOf_59c91 6 rfl) (tin_2 (i := 170) rfl rfl) lt58 sh59 ?_
    refine xw_aret (v := h_rf base (some (n))) (aJ7_copyOf_59c91 7 rfl) rfl (by first | exact Or.inl ⟨_, rfl⟩ | exact Or.inr ⟨_, rfl⟩) ?_
    exact ⟨some (n), rfl, n44, sl45, SH46, FI47, FL48, FR49, rfl, ex53, hS54, hI56, (gf_al gf_rf (Nat.le_refl _) eI61), (gf_al gf_rf (Nat.le_refl _) eL62), (gf_al gf_rf (Nat.le_refl _) eR63), hF55, hR57, (by omega), (by omega), (by intro q e; cases e; have h9 := i_cn (x := a2) (by omega); exact (sh59).trans (Prod.ext rfl (by show _ = (a2).toNatClampNeg; omega))), ((fun r e => by cases e; exact ⟨lt58, (Or.inr dy60), by rw [sh59]⟩)), (by simp), (fun q e => by cases e; exact (Nat.le_refl _))⟩
set_option maxHeartbeats 4000000 in
set_option maxRecDepth 100000 in
theorem k_copyOf117 {sk : xK} {base d n sl : Nat} {SH : Nat → Nat × Nat} {FI : Nat → Nat → Int32} {FL : Nat → Nat → Int64} {FR : Nat → Nat → Option Nat} (hS : h_S n SH) (hF : h_FR FR) (hI : g_I FI) (hR : g_R n SH FR) (a2 : Int32) (g0 : 0 ≤ (a2).toInt ∧ (a2).toInt ≤ 1001) : hw sk base (d + 1) none 297 0 [(0, .ref (base + 117)), (1, .int (a2))] [] (n, sl, SH, FI, FL, FR) (h_A base (fun r s => ∃ n' sl' SH' FI' FL' FR', s = (n', sl', SH', FI', FL', FR') ∧ g_ex n SH n' SH' ∧ h_S n' SH' ∧ g_I FI' ∧ g_fr n (shd SH) [] [] [] FI FI' ∧ g_fr n (shd SH) [] [] [] FL FL' ∧ g_fr n (shd SH) [] [] [] FR FR' ∧ h_FR FR' ∧ g_R n' SH' FR' ∧ (n' = n + 1) ∧ ((sl' : Int) = sl + (a2).toInt) ∧ (∀ q, r = some q → SH' q = (100, (a2).toNatClampNeg)) ∧ (∀ q, r = some q → q < n' ∧ own q ∧ SH' q = (100, (SH' q).2)) ∧ r ≠ none ∧ (∀ q, r = some q → n ≤ q))) := by
  have rg_a2 := i_rng a2
  refine xw_iloadn (aJ7_copyOf_59c91 0 rfl) rfl ?_
  refine hw_aloadn (aJ7_copyOf_59c91 1 rfl) rfl ?_
  refine hw_alen (k := 0) (z := 64) (v := (64 : Int32)) (aJ7_copyOf_59c91 2 rfl) (c117 hS) (s117 hS) (by decide) (by decide) ?_
  refine hw_icne (tgt := 14) (aJ7_copyOf_59c91 3 rfl) (by decide) rfl (by decide : (64 : Int32).toInt = 64) (fun cd1 => ?_) (fun cd1 => ?_)
  · refine xw_iloadn (aJ7_copyOf_59c91 8 rfl) rfl ?_
    have h03 : 0 ≤ (a2).toInt ∧ (a2).toInt ≤ 4000 := by omega
    have hz2 := i_cn h03.1
    refine hv_newa (k := 0) (z := (a2).toNatClampNeg) hS hF hI hR (by unfold g_dt; omega) (aJ7_copyOf_59c91 9 rfl) rfl (by decide) (tin_1 (i := 149) rfl rfl) (i_nn h03.1) rfl (by omega) (fun n4 sl5 SH6 FI7 FL8 FR9 hsl10 nw11 => ?_)
    obtain ⟨hn12, ex13, hS14, hF15, hI16, hR17, lt18, sh19, dy20, eI21, eL22, eR23, zI24, zL25, zR26⟩ := nw11
    refine hw_astoren (L2 := [(2, .ref (base + n)), (0, .ref (base + 117)), (1, .int (a2))]) (aJ7_copyOf_59c91 10 rfl) (by decide) rfl ?_
    refine hw_aloadn (aJ7_copyOf_59c91 11 rfl) rfl ?_
    refine hw_ic (v := (0 : Int32)) (aJ7_copyOf_59c91 12 rfl) (by decide) ?_
    refine hw_aloadn (aJ7_copyOf_59c91 13 rfl) rfl ?_
    refine hw_ic (v := (0 : Int32)) (aJ7_copyOf_59c91 14 rfl) (by decide) ?_
    refine hw_aloadn (aJ7_copyOf_59c91 15 rfl) rfl ?_
    refine hw_alen (k := 0) (z := 64) (v := (64 : Int32)) (aJ7_copyOf_59c91 16 rfl) (c117 hS14) (s117 hS14) (by decide) (by decide) ?_
    refine xw_iloadn (aJ7_copyOf_59c91 17 rfl) rfl ?_
    refine hw_callS (As := [.int ((64 : Int32)), .int (a2)]) (rest := [.int ((0 : Int32)), .ref (base + n), .int ((0 : Int32)), .ref (base + 117)]) (aJ7_copyOf_59c91 18 rfl) wc_RJ7_304 (by decide) rfl wt_yJ9_min_7cf53 rfl rfl (Nat.le_of_ble_eq_true rfl) (Nat.le_of_ble_eq_true rfl) (k_J9_min_7cf53 (d := d) hS14 hF15 hI16 hR17 ((64 : Int32)) (a2) ) (fun v27 sv28 p29 => ?_)
    have := ((by decide : (64 : Int32).toInt = 64) : ((64 : Int32)).toInt = 64)
    have := ((by decide : (64 : Int32).toInt = 64) : ((64 : Int32)).toInt = 64)
    obtain ⟨r30, rfl, rfl, t34, t35⟩ := p29
    have rg_r30 := i_rng r30
    show hw sk base _ _ _ _ _ [.int (r30), .int ((0 : Int32)), .ref (base + n), .int ((0 : Int32)), .ref (base + 117)] _ _
    have hc38 : 0 ≤ ((0 : Int32)).toInt ∧ (((0 : Int32)).toNatClampNeg : Int) = 0 := by decide
    have hc39 : 0 ≤ ((0 : Int32)).toInt ∧ (((0 : Int32)).toNatClampNeg : Int) = 0 := by decide
    have hc40z : 0 ≤ (r30).toInt := by omega
    have hc40 : 0 ≤ (r30).toInt ∧ ((r30).toNatClampNeg : Int) = (r30).toInt := ⟨hc40z, i_cn hc40z⟩
    refine hv_cpy (aJ7_copyOf_59c91 19 rfl) (tin_2 (i := 174) rfl rfl) (tin_2 (i := 176) rfl rfl) (tin_2 (i := 175) rfl rfl) (tin_1 (i := 13) rfl rfl) (c117 hS14) (s117 hS14) lt18 sh19 (i_nn hc38.1) (i_nn hc39.1) (i_nn hc40.1) (by have := ((by decide : (0 : Int32).toInt = 0) : ((0 : Int32)).toInt = 0); omega) (by have := ((by decide : (0 : Int32).toInt = 0) : ((0 : Int32)).toInt = 0); omega) (Nat.le_of_ble_eq_true rfl) (fun FI41 e42 => ?_)
    have hI43 := gI_off hI16 dy20 e42
    refine hw_aloadn (aJ7_copyOf_59c91 20 rfl) rfl ?_
    refine xw_aret (v := h_rf base (some (n))) (aJ7_copyOf_59c91 21 rfl) rfl (by first | exact Or.inl ⟨_, rfl⟩ | exact Or.inr ⟨_, rfl⟩) ?_
    exact ⟨some (n), rfl, n4, sl5, SH6, FI41, FL8, FR9, rfl, ex13, hS14, hI43, (gf_al (gf_al gf_rf (Nat.le_refl _) eI21) (Nat.le_refl _) e42), (gf_al gf_rf (Nat.le_refl _) eL22), (gf_al gf_rf (Nat.le_refl _) eR23), hF15, hR17, (by omega), (by omega), (by intro q e; cases e; have h9 := i_cn (x := a2) (by omega); exact (sh19).trans (Prod.ext rfl (by show _ = (a2).toNatClampNeg; omega))), ((fun r e => by cases e; exact ⟨lt18, (Or.inr dy20), by rw [sh19]⟩)), (by simp), (fun q e => by cases e; exact (Nat.le_refl _))⟩
  · refine hw_aloadn (aJ7_copyOf_59c91 4 rfl) rfl ?_
    refine hv_clone (z := 64) hS hF hI hR (aJ7_copyOf_59c91 5 rfl) (tin_2 (i := 164) rfl rfl) (tin_2 (i := 165) rfl rfl) (tin_2 (i := 166) rfl rfl) (tin_2 (i := 167) rfl rfl) (tin_2 (i := 168) rfl rfl) (nin_2 (i := 169) rfl rfl) (c117 hS) (s117 hS) (Nat.le_of_ble_eq_true rfl) (fun n44 sl45 SH46 FI47 FL48 FR49 hsl50 nw51 => ?_)
    obtain ⟨hn52, ex53, hS54, hF55, hI56, hR57, lt58, sh59, dy60, eI61, eL62, eR63, zI64, zL65, zR66⟩ := nw51
    refine hw_cast (aJ7_copyOf_59c91 6 rfl) (tin_2 (i := 170) rfl rfl) lt58 sh59 ?_
    refine xw_aret (v := h_rf base (some (n))) (aJ7_copyOf_59c91 7 rfl) rfl (by first | exact Or.inl ⟨_, rfl⟩ | exact Or.inr ⟨_, rfl⟩) ?_
    exact ⟨some (n), rfl, n44, sl45, SH46, FI47, FL48, FR49, rfl, ex53, hS54, hI56, (gf_al gf_rf (Nat.le_refl _) eI61), (gf_al gf_rf (Nat.le_refl _) eL62), (gf_al gf_rf (Nat.le_refl _) eR63), hF55, hR57, (by omega), (by omega), (by intro q e; cases e; have h9 := i_cn (x := a2) (by omega); exact (sh59).trans (Prod.ext rfl (by show _ = (a2).toNatClampNeg; omega))), ((fun r e => by cases e; exact ⟨lt58, (Or.inr dy60), by rw [sh59]⟩)), (by simp), (fun q e => by cases e; exact (Nat.le_refl _))⟩
set_option maxHeartbeats 4000000 in
set_option maxRecDepth 100000 in
theorem k_copyOf120 {sk : xK} {base d n sl : Nat} {SH : Nat → Nat × Nat} {FI : Nat → Nat → Int32} {FL : Nat → Nat → Int64} {FR : Nat → Nat → Option Nat} (hS : h_S n SH) (hF : h_FR FR) (hI : g_I FI) (hR : g_R n SH FR) (a2 : Int32) (g0 : 0 ≤ (a2).toInt ∧ (a2).toInt ≤ 1001) : hw sk base (d + 1) none 297 0 [(0, .ref (base + 120)), (1, .int (a2))] [] (n, sl, SH, FI, FL, FR) (h_A base (fun r s => ∃ n' sl' SH' FI' FL' FR', s = (n', sl', SH', FI', FL', FR') ∧ g_ex n SH n' SH' ∧ h_S n' SH' ∧ g_I FI' ∧ g_fr n (shd SH) [] [] [] FI FI' ∧ g_fr n (shd SH) [] [] [] FL FL' ∧ g_fr n (shd SH) [] [] [] FR FR' ∧ h_FR FR' ∧ g_R n' SH' FR' ∧ (n' = n + 1) ∧ ((sl' : Int) = sl + (a2).toInt) ∧ (∀ q, r = some q → SH' q = (100, (a2).toNatClampNeg)) ∧ (∀ q, r = some q → q < n' ∧ own q ∧ SH' q = (100, (SH' q).2)) ∧ r ≠ none ∧ (∀ q, r = some q → n ≤ q))) := by
  have rg_a2 := i_rng a2
  refine xw_iloadn (aJ7_copyOf_59c91 0 rfl) rfl ?_
  refine hw_aloadn (aJ7_copyOf_59c91 1 rfl) rfl ?_
  refine hw_alen (k := 0) (z := 600) (v := (600 : Int32)) (aJ7_copyOf_59c91 2 rfl) (c120 hS) (s120 hS) (by decide) (by decide) ?_
  refine hw_icne (tgt := 14) (aJ7_copyOf_59c91 3 rfl) (by decide) rfl (by decide : (600 : Int32).toInt = 600) (fun cd1 => ?_) (fun cd1 => ?_)
  · refine xw_iloadn (aJ7_copyOf_59c91 8 rfl) rfl ?_
    have h03 : 0 ≤ (a2).toInt ∧ (a2).toInt ≤ 4000 := by omega
    have hz2 := i_cn h03.1
    refine hv_newa (k := 0) (z := (a2).toNatClampNeg) hS hF hI hR (by unfold g_dt; omega) (aJ7_copyOf_59c91 9 rfl) rfl (by decide) (tin_1 (i := 149) rfl rfl) (i_nn h03.1) rfl (by omega) (fun n4 sl5 SH6 FI7 FL8 FR9 hsl10 nw11 => ?_)
    obtain ⟨hn12, ex13, hS14, hF15, hI16, hR17, lt18, sh19, dy20, eI21, eL22, eR23, zI24, zL25, zR26⟩ := nw11
    refine hw_astoren (L2 := [(2, .ref (base + n)), (0, .ref (base + 120)), (1, .int (a2))]) (aJ7_copyOf_59c91 10 rfl) (by decide) rfl ?_
    refine hw_aloadn (aJ7_copyOf_59c91 11 rfl) rfl ?_
    refine hw_ic (v := (0 : Int32)) (aJ7_copyOf_59c91 12 rfl) (by decide) ?_
    refine hw_aloadn (aJ7_copyOf_59c91 13 rfl) rfl ?_
    refine hw_ic (v := (0 : Int32)) (aJ7_copyOf_59c91 14 rfl) (by decide) ?_
    refine hw_aloadn (aJ7_copyOf_59c91 15 rfl) rfl ?_
    refine hw_alen (k := 0) (z := 600) (v := (600 : Int32)) (aJ7_copyOf_59c91 16 rfl) (c120 hS14) (s120 hS14) (by decide) (by decide) ?_
    refine xw_iloadn (aJ7_copyOf_59c91 17 rfl) rfl ?_
    refine hw_callS (As := [.int ((600 : Int32)), .int (a2)]) (rest := [.int ((0 : Int32)), .ref (base + n), .int ((0 : Int32)), .ref (base + 120)]) (aJ7_copyOf_59c91 18 rfl) wc_RJ7_304 (by decide) rfl wt_yJ9_min_7cf53 rfl rfl (Nat.le_of_ble_eq_true rfl) (Nat.le_of_ble_eq_true rfl) (k_J9_min_7cf53 (d := d) hS14 hF15 hI16 hR17 ((600 : Int32)) (a2) ) (fun v27 sv28 p29 => ?_)
    have := ((by decide : (600 : Int32).toInt = 600) : ((600 : Int32)).toInt = 600)
    have := ((by decide : (600 : Int32).toInt = 600) : ((600 : Int32)).toInt = 600)
    obtain ⟨r30, rfl, rfl, t34, t35⟩ := p29
    have rg_r30 := i_rng r30
    show hw sk base _ _ _ _ _ [.int (r30), .int ((0 : Int32)), .ref (base + n), .int ((0 : Int32)), .ref (base + 120)] _ _
    have hc38 : 0 ≤ ((0 : Int32)).toInt ∧ (((0 : Int32)).toNatClampNeg : Int) = 0 := by decide
    have hc39 : 0 ≤ ((0 : Int32)).toInt ∧ (((0 : Int32)).toNatClampNeg : Int) = 0 := by decide
    have hc40z : 0 ≤ (r30).toInt := by omega
    have hc40 : 0 ≤ (r30).toInt ∧ ((r30).toNatClampNeg : Int) = (r30).toInt := ⟨hc40z, i_cn hc40z⟩
    refine hv_cpy (aJ7_copyOf_59c91 19 rfl) (tin_2 (i := 174) rfl rfl) (tin_2 (i := 176) rfl rfl) (tin_2 (i := 175) rfl rfl) (tin_1 (i := 13) rfl rfl) (c120 hS14) (s120 hS14) lt18 sh19 (i_nn hc38.1) (i_nn hc39.1) (i_nn hc40.1) (by have := ((by decide : (0 : Int32).toInt = 0) : ((0 : Int32)).toInt = 0); omega) (by have := ((by decide : (0 : Int32).toInt = 0) : ((0 : Int32)).toInt = 0); omega) (Nat.le_of_ble_eq_true rfl) (fun FI41 e42 => ?_)
    have hI43 := gI_off hI16 dy20 e42
    refine hw_aloadn (aJ7_copyOf_59c91 20 rfl) rfl ?_
    refine xw_aret (v := h_rf base (some (n))) (aJ7_copyOf_59c91 21 rfl) rfl (by first | exact Or.inl ⟨_, rfl⟩ | exact Or.inr ⟨_, rfl⟩) ?_
    exact ⟨some (n), rfl, n4, sl5, SH6, FI41, FL8, FR9, rfl, ex13, hS14, hI43, (gf_al (gf_al gf_rf (Nat.le_refl _) eI21) (Nat.le_refl _) e42), (gf_al gf_rf (Nat.le_refl _) eL22), (gf_al gf_rf (Nat.le_refl _) eR23), hF15, hR17, (by omega), (by omega), (by intro q e; cases e; have h9 := i_cn (x := a2) (by omega); exact (sh19).trans (Prod.ext rfl (by show _ = (a2).toNatClampNeg; omega))), ((fun r e => by cases e; exact ⟨lt18, (Or.inr dy20), by rw [sh19]⟩)), (by simp), (fun q e => by cases e; exact (Nat.le_refl _))⟩
  · refine hw_aloadn (aJ7_copyOf_59c91 4 rfl) rfl ?_
    refine hv_clone (z := 600) hS hF hI hR (aJ7_copyOf_59c91 5 rfl) (tin_2 (i := 164) rfl rfl) (tin_2 (i := 165) rfl rfl) (tin_2 (i := 166) rfl rfl) (tin_2 (i := 167) rfl rfl) (tin_2 (i := 168) rfl rfl) (nin_2 (i := 169) rfl rfl) (c120 hS) (s120 hS) (Nat.le_of_ble_eq_true rfl) (fun n44 sl45 SH46 FI47 FL48 FR49 hsl50 nw51 => ?_)
    obtain ⟨hn52, ex53, hS54, hF55, hI56, hR57, lt58, sh59, dy60, eI61, eL62, eR63, zI64, zL65, zR66⟩ := nw51
    refine hw_cast (aJ7_copyOf_59c91 6 rfl) (tin_2 (i := 170) rfl rfl) lt58 sh59 ?_
    refine xw_aret (v := h_rf base (some (n))) (aJ7_copyOf_59c91 7 rfl) rfl (by first | exact Or.inl ⟨_, rfl⟩ | exact Or.inr ⟨_, rfl⟩) ?_
    exact ⟨some (n), rfl, n44, sl45, SH46, FI47, FL48, FR49, rfl, ex53, hS54, hI56, (gf_al gf_rf (Nat.le_refl _) eI61), (gf_al gf_rf (Nat.le_refl _) eL62), (gf_al gf_rf (Nat.le_refl _) eR63), hF55, hR57, (by omega), (by omega), (by intro q e; cases e; have h9 := i_cn (x := a2) (by omega); exact (sh59).trans (Prod.ext rfl (by show _ = (a2).toNatClampNeg; omega))), ((fun r e => by cases e; exact ⟨lt58, (Or.inr dy60), by rw [sh59]⟩)), (by simp), (fun q e => by cases e; exact (Nat.le_refl _))⟩
end
section
def nX11_tapeInto : Nat := 0xac1d4500b5032a535800b81d1000b42a1c2b3e4500b42aac020500a45802114500b42a0d00a2be2b1c13009b1c
theorem bX11_tapeInto : cX11_tapeInto.data.toList.map UInt8.toNat = x_un nX11_tapeInto 45 := by decide +kernel
def iX11_tapeInto : List (Nat × Jvm.ClassFile.Instr × Nat) := [(0, .iload_n 2, 1), (1, .ifCond .lt 19, 3), (4, .iload_n 2, 1), (5, .aload_n 1, 1), (6, .arraylength, 1), (7, .if_icmp .ge 13, 3), (10, .aload_n 0, 1), (11, .getfield 69, 3), (14, .sipush 600, 3), (17, .if_icmp .le 5, 3), (20, .iconst (-1), 1), (21, .ireturn, 1), (22, .aload_n 0, 1), (23, .getfield 69, 3), (26, .istore_n 3, 1), (27, .aload_n 1, 1), (28, .iload_n 2, 1), (29, .aload_n 0, 1), (30, .getfield 16, 3), (33, .iload_n 3, 1), (34, .invokestatic 88, 3), (37, .aastore, 1), (38, .aload_n 0, 1), (39, .iconst 0, 1), (40, .putfield 69, 3), (43, .iload_n 3, 1), (44, .ireturn, 1)]
theorem dX11_tapeInto : x_il nX11_tapeInto 45 iX11_tapeInto = true := by decide +kernel
theorem aX11_tapeInto (k : Nat) {pc : Nat} {i : Jvm.ClassFile.Instr} {len : Nat} (hk : iX11_tapeInto[k]? = some (pc, i, len)) : x_at xMM 123 pc i len yX11_tapeInto 4 (some .int) := ⟨cX11_tapeInto, rfl, x_il_ok bX11_tapeInto dX11_tapeInto k hk⟩
set_option maxHeartbeats 4000000 in
set_option maxRecDepth 100000 in
theorem k_tapeInto26 {sk : xK} {base d n sl : Nat} {SH : Nat → Nat × Nat} {FI : Nat → Nat → Int32} {FL : Nat → Nat → Int64} {FR : Nat → Nat → Option Nat} (hS : h_S n SH) (hF : h_FR FR) (hI : g_I FI) (hR : g_R n SH FR) (a2 : Int32) : hw sk base (d + 2) none 123 0 [(0, .ref (base + 0)), (1, .ref (base + 26)), (2, .int (a2))] [] (n, sl, SH, FI, FL, FR) (h_I (fun r s => ∃ n' sl' SH' FI' FL' FR', s = (n', sl', SH', FI', FL', FR') ∧ g_ex n SH n' SH' ∧ h_S n' SH' ∧ g_I FI' ∧ g_fr n (shd SH) [(0, 9)] [] [] FI FI' ∧ g_fr n (shd SH) [] [] [] FL FL' ∧ g_fr n (shd SH) [] [26] [] FR FR' ∧ h_FR FR' ∧ g_R n' SH' FR' ∧ ((n' : Int) ≤ n + 1) ∧ ((sl' : Int) + (FI' 0 9).toInt ≤ sl + (FI 0 9).toInt) ∧ ((FI' 0 9).toInt ≤ (FI 0 9).toInt))) := by
  have rg_a2 := i_rng a2
  obtain ⟨x1, h2⟩ : ∃ y, FI 0 9 = y := ⟨_, rfl⟩
  have h2l := congrArg Int32.toInt h2
  have b3 := gI_0_9 hI; rw [h2] at b3
  refine xw_iloadn (aX11_tapeInto 0 rfl) rfl ?_
  refine hw_iflt (tgt := 20) (aX11_tapeInto 1 rfl) (by decide) rfl (fun cd4 => ?_) (fun cd4 => ?_)
  · refine hw_ic (v := ((-1) : Int32)) (aX11_tapeInto 10 rfl) (by decide) ?_
    refine xw_iret (aX11_tapeInto 11 rfl) rfl rfl ?_
    have e5 : (((-1) : Int32)).toInt = (-1) := (by decide : ((-1) : Int32).toInt = (-1))
    exact ⟨((-1) : Int32), rfl, n, sl, SH, FI, FL, FR, rfl, ex_rf, hS, hI, gf_rf, gf_rf, gf_rf, hF, hR, (by have : (((-1) : Int32)).toInt = (-1) := (by decide); omega), (by have : (((-1) : Int32)).toInt = (-1) := (by decide); have := congrArg Int32.toInt (show FI 0 9 = x1 from h2); omega), (by have : (((-1) : Int32)).toInt = (-1) := (by decide); have := congrArg Int32.toInt (show FI 0 9 = x1 from h2); omega)⟩
  · refine xw_iloadn (aX11_tapeInto 2 rfl) rfl ?_
    refine hw_aloadn (aX11_tapeInto 3 rfl) rfl ?_
    refine hw_alen (k := 6) (z := 16) (v := (16 : Int32)) (aX11_tapeInto 4 rfl) (c26 hS) (s26 hS) (by decide) (by decide) ?_
    refine hw_icge (tgt := 20) (aX11_tapeInto 5 rfl) (by decide) rfl (by decide : (16 : Int32).toInt = 16) (fun cd6 => ?_) (fun cd6 => ?_)
    · refine hw_ic (v := ((-1) : Int32)) (aX11_tapeInto 10 rfl) (by decide) ?_
      refine xw_iret (aX11_tapeInto 11 rfl) rfl rfl ?_
      have e7 : (((-1) : Int32)).toInt = (-1) := (by decide : ((-1) : Int32).toInt = (-1))
      exact ⟨((-1) : Int32), rfl, n, sl, SH, FI, FL, FR, rfl, ex_rf, hS, hI, gf_rf, gf_rf, gf_rf, hF, hR, (by have : (((-1) : Int32)).toInt = (-1) := (by decide); omega), (by have : (((-1) : Int32)).toInt = (-1) := (by decide); have := congrArg Int32.toInt (show FI 0 9 = x1 from h2); omega), (by have : (((-1) : Int32)).toInt = (-1) := (by decide); have := congrArg Int32.toInt (show FI 0 9 = x1 from h2); omega)⟩
    · refine hw_aloadn (aX11_tapeInto 6 rfl) rfl ?_
      refine hw_get (v := .int (x1)) (aX11_tapeInto 7 rfl) wf_RX11_69 (c0 hS) (s0 hS) (by decide) (congrArg Value.int (show FI 0 9 = x1 from h2)) ?_
      refine hw_sp (v := (600 : Int32)) (aX11_tapeInto 8 rfl) (by decide) ?_
      refine hw_icle (tgt := 22) (aX11_tapeInto 9 rfl) (by decide) rfl (by decide : (600 : Int32).toInt = 600) (fun cd8 => ?_) (fun cd8 => ?_)
      · refine hw_aloadn (aX11_tapeInto 12 rfl) rfl ?_
        refine hw_get (v := .int (x1)) (aX11_tapeInto 13 rfl) wf_RX11_69 (c0 hS) (s0 hS) (by decide) (congrArg Value.int (show FI 0 9 = x1 from h2)) ?_
        refine xw_istoren (L2 := [(3, .int (x1)), (0, .ref (base + 0)), (1, .ref (base + 26)), (2, .int (a2))]) (aX11_tapeInto 14 rfl) (by decide) rfl ?_
        refine hw_aloadn (aX11_tapeInto 15 rfl) rfl ?_
        refine xw_iloadn (aX11_tapeInto 16 rfl) rfl ?_
        refine hw_aloadn (aX11_tapeInto 17 rfl) rfl ?_
        refine hw_get (v := .ref (base + 19)) (aX11_tapeInto 18 rfl) wf_RX11_16 (c0 hS) (s0 hS) (by decide) (congrArg (fun r => va_rf (h_rf base r)) (r0_6 hF)) ?_
        refine xw_iloadn (aX11_tapeInto 19 rfl) rfl ?_
        refine hw_callS (As := [.ref (base + 19), .int (x1)]) (rest := [.int (a2), .ref (base + 26)]) (aX11_tapeInto 20 rfl) wc_RX11_88 (by decide) rfl wt_yJ7_copyOf_59c91 rfl rfl (Nat.le_of_ble_eq_true rfl) (Nat.le_of_ble_eq_true rfl) (k_copyOf19 (d := d) hS hF hI hR (x1) (by omega)) (fun v9 sv10 p11 => ?_)
        obtain ⟨r12, rfl, n27, sl28, SH29, FI13, FL14, FR15, rfl, ex30, hS31, hI16, f17, f18, f19, hF20, hR21, t22, t23, u24, ht25, nn26, hfr32⟩ := p11
        obtain ⟨r33, rfl⟩ : ∃ q, r12 = some q := Option.ne_none_iff_exists'.mp nn26
        have fq34 := hfr32 r33 rfl
        have dq35 : 176 ≤ r33 := Nat.le_trans hS.1 fq34
        obtain ⟨lt37, ow38, sh39⟩ := ht25 r33 rfl
        show hw sk base _ _ _ _ _ [.ref (base + r33), .int (a2), .ref (base + 26)] _ _
        refine hv_aastI (i2 := (a2).toNatClampNeg) (aX11_tapeInto 21 rfl) (c26 hS31) (s26 hS31) (nin_1 (i := 95) rfl rfl) lt37 sh39 (h_in rfl (by omega) (by omega)) rfl (fun FR40 u41 => ?_)
        have hF42 : h_FR FR40 := hF_ua hS31 hF20 u41 (s26 hS31) (by decide +kernel)
        have hR43 : g_R n27 SH29 FR40 := gR_up hR21 u41 (s26 hS31) (fun r e => by cases e; exact ⟨lt37, ow38, by rw [sh39]; rfl⟩) (fun h => absurd h (by have := (by decide : 26 < 176); omega)) (fun _ => by simp) (fun h => absurd h.1 (by decide))
        refine hw_aloadn (aX11_tapeInto 22 rfl) rfl ?_
        refine hw_ic (v := (0 : Int32)) (aX11_tapeInto 23 rfl) (by decide) ?_
        refine hv_puti (aX11_tapeInto 24 rfl) wf_RX11_69 (c0 hS31) (s0 hS31) (by decide) rfl rfl (fun FI44 u45 => ?_)
        have hI46 : g_I FI44 := gU_0_9 hI16 u45 (by have := ((by decide : (0 : Int32).toInt = 0) : ((0 : Int32)).toInt = 0); omega) (by have := ((by decide : (0 : Int32).toInt = 0) : ((0 : Int32)).toInt = 0); omega)
        refine xw_iloadn (aX11_tapeInto 25 rfl) rfl ?_
        refine xw_iret (aX11_tapeInto 26 rfl) rfl rfl ?_
        exact ⟨x1, rfl, n27, sl28, SH29, FI44, FL14, FR40, rfl, ex30, hS31, hI46, (gf_f (gf_tr ex_rf gf_rf f17 rfl rfl rfl) u45 (by decide)), (gf_tr ex_rf gf_rf f18 rfl rfl rfl), (gf_a (gf_tr ex_rf gf_rf f19 rfl rfl rfl) u41 (by decide)), hF42, hR43, (by omega), (by have := congrArg Int32.toInt (show FI44 0 9 = (0 : Int32) from up_eq u45); have := ((by decide : (0 : Int32).toInt = 0) : ((0 : Int32)).toInt = 0); omega), (by have := congrArg Int32.toInt (show FI44 0 9 = (0 : Int32) from up_eq u45); have := ((by decide : (0 : Int32).toInt = 0) : ((0 : Int32)).toInt = 0); omega)⟩
      · refine hw_ic (v := ((-1) : Int32)) (aX11_tapeInto 10 rfl) (by decide) ?_
        refine xw_iret (aX11_tapeInto 11 rfl) rfl rfl ?_
        have e47 : (((-1) : Int32)).toInt = (-1) := (by decide : ((-1) : Int32).toInt = (-1))
        exact ⟨((-1) : Int32), rfl, n, sl, SH, FI, FL, FR, rfl, ex_rf, hS, hI, gf_rf, gf_rf, gf_rf, hF, hR, (by have : (((-1) : Int32)).toInt = (-1) := (by decide); omega), (by have : (((-1) : Int32)).toInt = (-1) := (by decide); have := congrArg Int32.toInt (show FI 0 9 = x1 from h2); omega), (by have : (((-1) : Int32)).toInt = (-1) := (by decide); have := congrArg Int32.toInt (show FI 0 9 = x1 from h2); omega)⟩
set_option maxHeartbeats 4000000 in
set_option maxRecDepth 100000 in
theorem k_tapeInto43 {sk : xK} {base d n sl : Nat} {SH : Nat → Nat × Nat} {FI : Nat → Nat → Int32} {FL : Nat → Nat → Int64} {FR : Nat → Nat → Option Nat} (hS : h_S n SH) (hF : h_FR FR) (hI : g_I FI) (hR : g_R n SH FR) (a2 : Int32) : hw sk base (d + 2) none 123 0 [(0, .ref (base + 0)), (1, .ref (base + 43)), (2, .int (a2))] [] (n, sl, SH, FI, FL, FR) (h_I (fun r s => ∃ n' sl' SH' FI' FL' FR', s = (n', sl', SH', FI', FL', FR') ∧ g_ex n SH n' SH' ∧ h_S n' SH' ∧ g_I FI' ∧ g_fr n (shd SH) [(0, 9)] [] [] FI FI' ∧ g_fr n (shd SH) [] [] [] FL FL' ∧ g_fr n (shd SH) [] [43] [] FR FR' ∧ h_FR FR' ∧ g_R n' SH' FR' ∧ ((n' : Int) ≤ n + 1) ∧ ((sl' : Int) + (FI' 0 9).toInt ≤ sl + (FI 0 9).toInt) ∧ ((FI' 0 9).toInt ≤ (FI 0 9).toInt))) := by
  have rg_a2 := i_rng a2
  obtain ⟨x1, h2⟩ : ∃ y, FI 0 9 = y := ⟨_, rfl⟩
  have h2l := congrArg Int32.toInt h2
  have b3 := gI_0_9 hI; rw [h2] at b3
  refine xw_iloadn (aX11_tapeInto 0 rfl) rfl ?_
  refine hw_iflt (tgt := 20) (aX11_tapeInto 1 rfl) (by decide) rfl (fun cd4 => ?_) (fun cd4 => ?_)
  · refine hw_ic (v := ((-1) : Int32)) (aX11_tapeInto 10 rfl) (by decide) ?_
    refine xw_iret (aX11_tapeInto 11 rfl) rfl rfl ?_
    have e5 : (((-1) : Int32)).toInt = (-1) := (by decide : ((-1) : Int32).toInt = (-1))
    exact ⟨((-1) : Int32), rfl, n, sl, SH, FI, FL, FR, rfl, ex_rf, hS, hI, gf_rf, gf_rf, gf_rf, hF, hR, (by have : (((-1) : Int32)).toInt = (-1) := (by decide); omega), (by have : (((-1) : Int32)).toInt = (-1) := (by decide); have := congrArg Int32.toInt (show FI 0 9 = x1 from h2); omega), (by have : (((-1) : Int32)).toInt = (-1) := (by decide); have := congrArg Int32.toInt (show FI 0 9 = x1 from h2); omega)⟩
  · refine xw_iloadn (aX11_tapeInto 2 rfl) rfl ?_
    refine hw_aloadn (aX11_tapeInto 3 rfl) rfl ?_
    refine hw_alen (k := 6) (z := 4) (v := (4 : Int32)) (aX11_tapeInto 4 rfl) (c43 hS) (s43 hS) (by decide) (by decide) ?_
    refine hw_icge (tgt := 20) (aX11_tapeInto 5 rfl) (by decide) rfl (by decide : (4 : Int32).toInt = 4) (fun cd6 => ?_) (fun cd6 => ?_)
    · refine hw_ic (v := ((-1) : Int32)) (aX11_tapeInto 10 rfl) (by decide) ?_
      refine xw_iret (aX11_tapeInto 11 rfl) rfl rfl ?_
      have e7 : (((-1) : Int32)).toInt = (-1) := (by decide : ((-1) : Int32).toInt = (-1))
      exact ⟨((-1) : Int32), rfl, n, sl, SH, FI, FL, FR, rfl, ex_rf, hS, hI, gf_rf, gf_rf, gf_rf, hF, hR, (by have : (((-1) : Int32)).toInt = (-1) := (by decide); omega), (by have : (((-1) : Int32)).toInt = (-1) := (by decide); have := congrArg Int32.toInt (show FI 0 9 = x1 from h2); omega), (by have : (((-1) : Int32)).toInt = (-1) := (by decide); have := congrArg Int32.toInt (show FI 0 9 = x1 from h2); omega)⟩
    · refine hw_aloadn (aX11_tapeInto 6 rfl) rfl ?_
      refine hw_get (v := .int (x1)) (aX11_tapeInto 7 rfl) wf_RX11_69 (c0 hS) (s0 hS) (by decide) (congrArg Value.int (show FI 0 9 = x1 from h2)) ?_
      refine hw_sp (v := (600 : Int32)) (aX11_tapeInto 8 rfl) (by decide) ?_
      refine hw_icle (tgt := 22) (aX11_tapeInto 9 rfl) (by decide) rfl (by decide : (600 : Int32).toInt = 600) (fun cd8 => ?_) (fun cd8 => ?_)
      · refine hw_aloadn (aX11_tapeInto 12 rfl) rfl ?_
        refine hw_get (v := .int (x1)) (aX11_tapeInto 13 rfl) wf_RX11_69 (c0 hS) (s0 hS) (by decide) (congrArg Value.int (show FI 0 9 = x1 from h2)) ?_
        refine xw_istoren (L2 := [(3, .int (x1)), (0, .ref (base + 0)), (1, .ref (base + 43)), (2, .int (a2))]) (aX11_tapeInto 14 rfl) (by decide) rfl ?_
        refine hw_aloadn (aX11_tapeInto 15 rfl) rfl ?_
        refine xw_iloadn (aX11_tapeInto 16 rfl) rfl ?_
        refine hw_aloadn (aX11_tapeInto 17 rfl) rfl ?_
        refine hw_get (v := .ref (base + 19)) (aX11_tapeInto 18 rfl) wf_RX11_16 (c0 hS) (s0 hS) (by decide) (congrArg (fun r => va_rf (h_rf base r)) (r0_6 hF)) ?_
        refine xw_iloadn (aX11_tapeInto 19 rfl) rfl ?_
        refine hw_callS (As := [.ref (base + 19), .int (x1)]) (rest := [.int (a2), .ref (base + 43)]) (aX11_tapeInto 20 rfl) wc_RX11_88 (by decide) rfl wt_yJ7_copyOf_59c91 rfl rfl (Nat.le_of_ble_eq_true rfl) (Nat.le_of_ble_eq_true rfl) (k_copyOf19 (d := d) hS hF hI hR (x1) (by omega)) (fun v9 sv10 p11 => ?_)
        obtain ⟨r12, rfl, n27, sl28, SH29, FI13, FL14, FR15, rfl, ex30, hS31, hI16, f17, f18, f19, hF20, hR21, t22, t23, u24, ht25, nn26, hfr32⟩ := p11
        obtain ⟨r33, rfl⟩ : ∃ q, r12 = some q := Option.ne_none_iff_exists'.mp nn26
        have fq34 := hfr32 r33 rfl
        have dq35 : 176 ≤ r33 := Nat.le_trans hS.1 fq34
        obtain ⟨lt37, ow38, sh39⟩ := ht25 r33 rfl
        show hw sk base _ _ _ _ _ [.ref (base + r33), .int (a2), .ref (base + 43)] _ _
        refine hv_aastI (i2 := (a2).toNatClampNeg) (aX11_tapeInto 21 rfl) (c43 hS31) (s43 hS31) (nin_1 (i := 95) rfl rfl) lt37 sh39 (h_in rfl (by omega) (by omega)) rfl (fun FR40 u41 => ?_)
        have hF42 : h_FR FR40 := hF_ua hS31 hF20 u41 (s43 hS31) (by decide +kernel)
        have hR43 : g_R n27 SH29 FR40 := gR_up hR21 u41 (s43 hS31) (fun r e => by cases e; exact ⟨lt37, ow38, by rw [sh39]; rfl⟩) (fun h => absurd h (by have := (by decide : 43 < 176); omega)) (fun _ => by simp) (fun h => absurd h.1 (by decide))
        refine hw_aloadn (aX11_tapeInto 22 rfl) rfl ?_
        refine hw_ic (v := (0 : Int32)) (aX11_tapeInto 23 rfl) (by decide) ?_
        refine hv_puti (aX11_tapeInto 24 rfl) wf_RX11_69 (c0 hS31) (s0 hS31) (by decide) rfl rfl (fun FI44 u45 => ?_)
        have hI46 : g_I FI44 := gU_0_9 hI16 u45 (by have := ((by decide : (0 : Int32).toInt = 0) : ((0 : Int32)).toInt = 0); omega) (by have := ((by decide : (0 : Int32).toInt = 0) : ((0 : Int32)).toInt = 0); omega)
        refine xw_iloadn (aX11_tapeInto 25 rfl) rfl ?_
        refine xw_iret (aX11_tapeInto 26 rfl) rfl rfl ?_
        exact ⟨x1, rfl, n27, sl28, SH29, FI44, FL14, FR40, rfl, ex30, hS31, hI46, (gf_f (gf_tr ex_rf gf_rf f17 rfl rfl rfl) u45 (by decide)), (gf_tr ex_rf gf_rf f18 rfl rfl rfl), (gf_a (gf_tr ex_rf gf_rf f19 rfl rfl rfl) u41 (by decide)), hF42, hR43, (by omega), (by have := congrArg Int32.toInt (show FI44 0 9 = (0 : Int32) from up_eq u45); have := ((by decide : (0 : Int32).toInt = 0) : ((0 : Int32)).toInt = 0); omega), (by have := congrArg Int32.toInt (show FI44 0 9 = (0 : Int32) from up_eq u45); have := ((by decide : (0 : Int32).toInt = 0) : ((0 : Int32)).toInt = 0); omega)⟩
      · refine hw_ic (v := ((-1) : Int32)) (aX11_tapeInto 10 rfl) (by decide) ?_
        refine xw_iret (aX11_tapeInto 11 rfl) rfl rfl ?_
        have e47 : (((-1) : Int32)).toInt = (-1) := (by decide : ((-1) : Int32).toInt = (-1))
        exact ⟨((-1) : Int32), rfl, n, sl, SH, FI, FL, FR, rfl, ex_rf, hS, hI, gf_rf, gf_rf, gf_rf, hF, hR, (by have : (((-1) : Int32)).toInt = (-1) := (by decide); omega), (by have : (((-1) : Int32)).toInt = (-1) := (by decide); have := congrArg Int32.toInt (show FI 0 9 = x1 from h2); omega), (by have : (((-1) : Int32)).toInt = (-1) := (by decide); have := congrArg Int32.toInt (show FI 0 9 = x1 from h2); omega)⟩
def nX11_expression : Nat := 0xac5100b61b4d00b42300b42a2a
theorem bX11_expression : cX11_expression.data.toList.map UInt8.toNat = x_un nX11_expression 13 := by decide +kernel
def iX11_expression : List (Nat × Jvm.ClassFile.Instr × Nat) := [(0, .aload_n 0, 1), (1, .aload_n 0, 1), (2, .getfield 35, 3), (5, .getfield 77, 3), (8, .iload_n 1, 1), (9, .invokevirtual 81, 3), (12, .ireturn, 1)]
theorem dX11_expression : x_il nX11_expression 13 iX11_expression = true := by decide +kernel
theorem aX11_expression (k : Nat) {pc : Nat} {i : Jvm.ClassFile.Instr} {len : Nat} (hk : iX11_expression[k]? = some (pc, i, len)) : x_at xMM 121 pc i len yX11_expression 2 (some .int) := ⟨cX11_expression, rfl, x_il_ok bX11_expression dX11_expression k hk⟩
set_option maxHeartbeats 4000000 in
set_option maxRecDepth 100000 in
theorem k_X11_expression {sk : xK} {base d n sl : Nat} {SH : Nat → Nat × Nat} {FI : Nat → Nat → Int32} {FL : Nat → Nat → Int64} {FR : Nat → Nat → Option Nat} (hS : h_S n SH) (hF : h_FR FR) (hI : g_I FI) (hR : g_R n SH FR) (a1 : Int32) : hw sk base (d + 3) none 121 0 [(0, .ref (base + 0)), (1, .int (a1))] [] (n, sl, SH, FI, FL, FR) (h_I (fun r s => ∃ n' sl' SH' FI' FL' FR', s = (n', sl', SH', FI', FL', FR') ∧ g_ex n SH n' SH' ∧ h_S n' SH' ∧ g_I FI' ∧ g_fr n (shd SH) [(0, 9)] [] [] FI FI' ∧ g_fr n (shd SH) [] [] [] FL FL' ∧ g_fr n (shd SH) [] [26] [] FR FR' ∧ h_FR FR' ∧ g_R n' SH' FR' ∧ ((n' : Int) ≤ n + 1) ∧ ((sl' : Int) + (FI' 0 9).toInt ≤ sl + (FI 0 9).toInt) ∧ ((FI' 0 9).toInt ≤ (FI 0 9).toInt))) := by
  have rg_a1 := i_rng a1
  obtain ⟨x1, h2⟩ : ∃ y, FI 0 9 = y := ⟨_, rfl⟩
  have h2l := congrArg Int32.toInt h2
  have b3 := gI_0_9 hI; rw [h2] at b3
  refine hw_aloadn (aX11_expression 0 rfl) rfl ?_
  refine hw_aloadn (aX11_expression 1 rfl) rfl ?_
  refine hw_get (v := .ref (base + 23)) (aX11_expression 2 rfl) wf_RX11_35 (c0 hS) (s0 hS) (by decide) (congrArg (fun r => va_rf (h_rf base r)) (r0_0 hF)) ?_
  refine hw_get (v := .ref (base + 26)) (aX11_expression 3 rfl) wf_RX11_77 (c23 hS) (s23 hS) (by decide) (congrArg (fun r => va_rf (h_rf base r)) (r23_2 hF)) ?_
  refine xw_iloadn (aX11_expression 4 rfl) rfl ?_
  refine hw_callV (Bs := [.ref (base + 26), .int (a1)]) (rest := []) (aX11_expression 5 rfl) wc_RX11_81 (by decide) rfl wi_yX11_tapeInto wv_yX11_tapeInto (c0 hS) (s0 hS) rfl rfl rfl (Nat.le_of_ble_eq_true rfl) (Nat.le_of_ble_eq_true rfl) (k_tapeInto26 (d := d) hS hF hI hR (a1) ) (fun v4 sv5 p6 => ?_)
  have := congrArg Int32.toInt (show FI 0 9 = x1 from h2)
  have := congrArg Int32.toInt (show FI 0 9 = x1 from h2)
  obtain ⟨r7, rfl, n22, sl23, SH24, FI8, FL9, FR10, rfl, ex25, hS26, hI11, f12, f13, f14, hF15, hR16, t17, t18, t19⟩ := p6
  have rg_r7 := i_rng r7
  obtain ⟨x27, h28⟩ : ∃ y, FI8 0 9 = y := ⟨_, rfl⟩
  have h28l := congrArg Int32.toInt h28
  have b29 := gI_0_9 hI11; rw [h28] at b29
  show hw sk base _ _ _ _ _ [.int (r7)] _ _
  refine xw_iret (aX11_expression 6 rfl) rfl rfl ?_
  exact ⟨r7, rfl, n22, sl23, SH24, FI8, FL9, FR10, rfl, ex25, hS26, hI11, (gf_tr ex_rf gf_rf f12 rfl rfl rfl), (gf_tr ex_rf gf_rf f13 rfl rfl rfl), (gf_tr ex_rf gf_rf f14 rfl rfl rfl), hF15, hR16, (by omega), (by have := congrArg Int32.toInt (show FI8 0 9 = x27 from h28); omega), (by have := congrArg Int32.toInt (show FI8 0 9 = x27 from h28); omega)⟩
def nX11_list : Nat := 0xac5100b61b5500b42300b42a2a
theorem bX11_list : cX11_list.data.toList.map UInt8.toNat = x_un nX11_list 13 := by decide +kernel
def iX11_list : List (Nat × Jvm.ClassFile.Instr × Nat) := [(0, .aload_n 0, 1), (1, .aload_n 0, 1), (2, .getfield 35, 3), (5, .getfield 85, 3), (8, .iload_n 1, 1), (9, .invokevirtual 81, 3), (12, .ireturn, 1)]
theorem dX11_list : x_il nX11_list 13 iX11_list = true := by decide +kernel
theorem aX11_list (k : Nat) {pc : Nat} {i : Jvm.ClassFile.Instr} {len : Nat} (hk : iX11_list[k]? = some (pc, i, len)) : x_at xMM 122 pc i len yX11_list 2 (some .int) := ⟨cX11_list, rfl, x_il_ok bX11_list dX11_list k hk⟩
set_option maxHeartbeats 4000000 in
set_option maxRecDepth 100000 in
theorem k_X11_list {sk : xK} {base d n sl : Nat} {SH : Nat → Nat × Nat} {FI : Nat → Nat → Int32} {FL : Nat → Nat → Int64} {FR : Nat → Nat → Option Nat} (hS : h_S n SH) (hF : h_FR FR) (hI : g_I FI) (hR : g_R n SH FR) (a1 : Int32) : hw sk base (d + 3) none 122 0 [(0, .ref (base + 0)), (1, .int (a1))] [] (n, sl, SH, FI, FL, FR) (h_I (fun r s => ∃ n' sl' SH' FI' FL' FR', s = (n', sl', SH', FI', FL', FR') ∧ g_ex n SH n' SH' ∧ h_S n' SH' ∧ g_I FI' ∧ g_fr n (shd SH) [(0, 9)] [] [] FI FI' ∧ g_fr n (shd SH) [] [] [] FL FL' ∧ g_fr n (shd SH) [] [43] [] FR FR' ∧ h_FR FR' ∧ g_R n' SH' FR' ∧ ((n' : Int) ≤ n + 1) ∧ ((sl' : Int) + (FI' 0 9).toInt ≤ sl + (FI 0 9).toInt) ∧ ((FI' 0 9).toInt ≤ (FI 0 9).toInt))) := by
  have rg_a1 := i_rng a1
  obtain ⟨x1, h2⟩ : ∃ y, FI 0 9 = y := ⟨_, rfl⟩
  have h2l := congrArg Int32.toInt h2
  have b3 := gI_0_9 hI; rw [h2] at b3
  refine hw_aloadn (aX11_list 0 rfl) rfl ?_
  refine hw_aloadn (aX11_list 1 rfl) rfl ?_
  refine hw_get (v := .ref (base + 23)) (aX11_list 2 rfl) wf_RX11_35 (c0 hS) (s0 hS) (by decide) (congrArg (fun r => va_rf (h_rf base r)) (r0_0 hF)) ?_
  refine hw_get (v := .ref (base + 43)) (aX11_list 3 rfl) wf_RX11_85 (c23 hS) (s23 hS) (by decide) (congrArg (fun r => va_rf (h_rf base r)) (r23_3 hF)) ?_
  refine xw_iloadn (aX11_list 4 rfl) rfl ?_
  refine hw_callV (Bs := [.ref (base + 43), .int (a1)]) (rest := []) (aX11_list 5 rfl) wc_RX11_81 (by decide) rfl wi_yX11_tapeInto wv_yX11_tapeInto (c0 hS) (s0 hS) rfl rfl rfl (Nat.le_of_ble_eq_true rfl) (Nat.le_of_ble_eq_true rfl) (k_tapeInto43 (d := d) hS hF hI hR (a1) ) (fun v4 sv5 p6 => ?_)
  have := congrArg Int32.toInt (show FI 0 9 = x1 from h2)
  have := congrArg Int32.toInt (show FI 0 9 = x1 from h2)
  obtain ⟨r7, rfl, n22, sl23, SH24, FI8, FL9, FR10, rfl, ex25, hS26, hI11, f12, f13, f14, hF15, hR16, t17, t18, t19⟩ := p6
  have rg_r7 := i_rng r7
  obtain ⟨x27, h28⟩ : ∃ y, FI8 0 9 = y := ⟨_, rfl⟩
  have h28l := congrArg Int32.toInt h28
  have b29 := gI_0_9 hI11; rw [h28] at b29
  show hw sk base _ _ _ _ _ [.int (r7)] _ _
  refine xw_iret (aX11_list 6 rfl) rfl rfl ?_
  exact ⟨r7, rfl, n22, sl23, SH24, FI8, FL9, FR10, rfl, ex25, hS26, hI11, (gf_tr ex_rf gf_rf f12 rfl rfl rfl), (gf_tr ex_rf gf_rf f13 rfl rfl rfl), (gf_tr ex_rf gf_rf f14 rfl rfl rfl), hF15, hR16, (by omega), (by have := congrArg Int32.toInt (show FI8 0 9 = x27 from h28); omega), (by have := congrArg Int32.toInt (show FI8 0 9 = x27 from h28); omega)⟩
end
section
/-! The reader's letters, its rows. -/
def g_let (SH : Nat → Nat × Nat) (FI : Nat → Nat → Int32) (FR : Nat → Nat → Option Nat) (x : Int32) : Int32 := match FR 111 5 with
  | none => -1
  | some t => if 0 ≤ x.toInt ∧ x.toInt < (FI 111 6).toInt ∧ x.toInt < (Int32.ofNat (SH t).2).toInt then FI t x.toNatClampNeg else -1
theorem g_let_n {SH : Nat → Nat × Nat} {FI : Nat → Nat → Int32} {FR : Nat → Nat → Option Nat} {x : Int32} {t : Nat} (e : FR 111 5 = some t) (h : ¬ (0 ≤ x.toInt ∧ x.toInt < (FI 111 6).toInt ∧ x.toInt < (Int32.ofNat (SH t).2).toInt)) : g_let SH FI FR x = -1 := by
  unfold g_let; rw [e]; exact if_neg h
theorem g_let_s {SH : Nat → Nat × Nat} {FI : Nat → Nat → Int32} {FR : Nat → Nat → Option Nat} {x v : Int32} {t : Nat} (e : FR 111 5 = some t) (h : 0 ≤ x.toInt ∧ x.toInt < (FI 111 6).toInt ∧ x.toInt < (Int32.ofNat (SH t).2).toInt) (hv : FI t x.toNatClampNeg = v) : g_let SH FI FR x = v := by
  unfold g_let; rw [e]; exact (if_pos h).trans hv
theorem i_eq {x y : Int32} (h : x.toInt = y.toInt) : x = y := Int32.toInt_inj.mp h
/-- the rows of the tokens: the last one is no sign, none is long -/
def g_K (FI : Nat → Nat → Int32) : Prop := 1 ≤ (FI 111 4).toInt ∧ (FI 112 ((FI 111 4).toInt - 1).toNat).toInt ≤ 3 ∧ ∀ i : Nat, (i : Int) < (FI 111 4).toInt → (FI 115 i).toInt ≤ (FI 114 i).toInt + 20
end
