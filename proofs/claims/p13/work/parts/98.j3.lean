def nJ7_checkLength_df160 : Nat := 0xb1bf4100b73d00b63600b61b3200b65101133600b61a2f00b7592d00bb592b00bb2300a21a1b
theorem bJ7_checkLength_df160 : cJ7_checkLength_df160.data.toList.map UInt8.toNat = x_un nJ7_checkLength_df160 38 := by decide +kernel
def iJ7_checkLength_df160 : List (Nat × Jvm.ClassFile.Instr × Nat) := [(0, .iload_n 1, 1), (1, .iload_n 0, 1), (2, .if_icmp .ge 35, 3), (5, .new 43, 3), (8, .dup, 1), (9, .new 45, 3), (12, .dup, 1), (13, .invokespecial 47, 3), (16, .iload_n 0, 1), (17, .invokevirtual 54, 3), (23, .invokevirtual 50, 3), (26, .iload_n 1, 1), (27, .invokevirtual 54, 3), (30, .invokevirtual 61, 3), (33, .invokespecial 65, 3), (37, .return_, 1)]
theorem dJ7_checkLength_df160 : x_il nJ7_checkLength_df160 38 iJ7_checkLength_df160 = true := by decide +kernel
theorem aJ7_checkLength_df160 (k : Nat) {pc : Nat} {i : Jvm.ClassFile.Instr} {len : Nat} (hk : iJ7_checkLength_df160[k]? = some (pc, i, len)) : x_at xMM 294 pc i len yJ7_checkLength_df160 2 none := ⟨cJ7_checkLength_df160, rfl, x_il_ok bJ7_checkLength_df160 dJ7_checkLength_df160 k hk⟩
set_option maxHeartbeats 4000000 in
set_option maxRecDepth 100000 in
theorem k_J7_checkLength_df160 {sk : xK} {base d n sl : Nat} {SH : Nat → Nat × Nat} {FI : Nat → Nat → Int32} {FL : Nat → Nat → Int64} {FR : Nat → Nat → Option Nat} (hS : h_S n SH) (hF : h_FR FR) (hI : g_I FI) (hR : g_R n SH FR) (a1 : Int32) (a2 : Int32) (g0 : (a1).toInt ≤ (a2).toInt) : hw sk base d none 294 0 [(0, .int (a1)), (1, .int (a2))] [] (n, sl, SH, FI, FL, FR) (h_V (fun s => s = (n, sl, SH, FI, FL, FR))) := by
  have rg_a1 := i_rng a1
  have rg_a2 := i_rng a2
  refine xw_iloadn (aJ7_checkLength_df160 0 rfl) rfl ?_
  refine xw_iloadn (aJ7_checkLength_df160 1 rfl) rfl ?_
  refine hw_icge (tgt := 37) (aJ7_checkLength_df160 2 rfl) (by decide) rfl rfl (fun cd1 => ?_) (fun cd1 => ?_)
  · refine xw_vret (aJ7_checkLength_df160 15 rfl) rfl ?_
    exact ⟨rfl, rfl⟩
  · omega
def nJ7_copyOfRangeInt_feecc : Nat := 0xb004199600b83001b81d641bbe2a0304191b2a043a0abc1d3e641b1c5701b81c1b
theorem bJ7_copyOfRangeInt_feecc : cJ7_copyOfRangeInt_feecc.data.toList.map UInt8.toNat = x_un nJ7_copyOfRangeInt_feecc 33 := by decide +kernel
def iJ7_copyOfRangeInt_feecc : List (Nat × Jvm.ClassFile.Instr × Nat) := [(0, .iload_n 1, 1), (1, .iload_n 2, 1), (2, .invokestatic 343, 3), (5, .iload_n 2, 1), (6, .iload_n 1, 1), (7, .isub, 1), (8, .istore_n 3, 1), (9, .iload_n 3, 1), (10, .newarray .int, 2), (12, .astore 4, 2), (14, .aload_n 0, 1), (15, .iload_n 1, 1), (16, .aload 4, 2), (18, .iconst 0, 1), (19, .aload_n 0, 1), (20, .arraylength, 1), (21, .iload_n 1, 1), (22, .isub, 1), (23, .iload_n 3, 1), (24, .invokestatic 304, 3), (27, .invokestatic 150, 3), (30, .aload 4, 2), (32, .areturn, 1)]
theorem dJ7_copyOfRangeInt_feecc : x_il nJ7_copyOfRangeInt_feecc 33 iJ7_copyOfRangeInt_feecc = true := by decide +kernel
theorem aJ7_copyOfRangeInt_feecc (k : Nat) {pc : Nat} {i : Jvm.ClassFile.Instr} {len : Nat} (hk : iJ7_copyOfRangeInt_feecc[k]? = some (pc, i, len)) : x_at xMM 295 pc i len yJ7_copyOfRangeInt_feecc 5 (some (.array .int)) := ⟨cJ7_copyOfRangeInt_feecc, rfl, x_il_ok bJ7_copyOfRangeInt_feecc dJ7_copyOfRangeInt_feecc k hk⟩
set_option maxHeartbeats 4000000 in
set_option maxRecDepth 100000 in
theorem k_J7_copyOfRangeInt_feecc {sk : xK} {base d n sl : Nat} {SH : Nat → Nat × Nat} {FI : Nat → Nat → Int32} {FL : Nat → Nat → Int64} {FR : Nat → Nat → Option Nat} (hS : h_S n SH) (hF : h_FR FR) (hI : g_I FI) (hR : g_R n SH FR) (a1 : Nat) {z1 : Nat} (ha1l : a1 < n) (ha1s : SH a1 = (100, z1)) (ha1o : own a1) (a2 : Int32) (a3 : Int32) (g0 : (a2).toInt ≤ (a3).toInt ∧ (a3).toInt ≤ (a2).toInt + 20) (g1 : 0 ≤ (a2).toInt ∧ (a2).toInt ≤ 2147483647) (g2 : 0 ≤ (a3).toInt ∧ (a3).toInt ≤ 2147483647) (gg0 : (a3).toInt ≤ (z1 : Int) ∧ z1 < 2147483648) : hw sk base (d + 1) none 295 0 [(0, .ref (base + a1)), (1, .int (a2)), (2, .int (a3))] [] (n, sl, SH, FI, FL, FR) (h_A base (fun r s => ∃ n' sl' SH' FI' FL' FR', s = (n', sl', SH', FI', FL', FR') ∧ g_ex n SH n' SH' ∧ h_S n' SH' ∧ g_I FI' ∧ g_fr n (shd SH) [] [] [] FI FI' ∧ g_fr n (shd SH) [] [] [] FL FL' ∧ g_fr n (shd SH) [] [] [] FR FR' ∧ h_FR FR' ∧ g_R n' SH' FR' ∧ (n' = n + 1) ∧ ((sl' : Int) = sl + ((a3).toInt - (a2).toInt)) ∧ (∀ q, r = some q → q < n' ∧ own q ∧ SH' q = (100, (SH' q).2)) ∧ r ≠ none ∧ (∀ q, r = some q → n ≤ q))) := by
  have rg_a2 := i_rng a2
  have rg_a3 := i_rng a3
  refine xw_iloadn (aJ7_copyOfRangeInt_feecc 0 rfl) rfl ?_
  refine xw_iloadn (aJ7_copyOfRangeInt_feecc 1 rfl) rfl ?_
  refine hw_callS (As := [.int (a2), .int (a3)]) (rest := []) (aJ7_copyOfRangeInt_feecc 2 rfl) wc_RJ7_343 (by decide) rfl wt_yJ7_checkLength_df160 rfl rfl (Nat.le_of_ble_eq_true rfl) (Nat.le_of_ble_eq_true rfl) (k_J7_checkLength_df160 (d := d) hS hF hI hR (a2) (a3) (by omega)) (fun v1 sv2 p3 => ?_)
  obtain ⟨rfl, rfl⟩ := p3
  show hw sk base _ _ _ _ _ [] _ _
  refine xw_iloadn (aJ7_copyOfRangeInt_feecc 3 rfl) rfl ?_
  refine xw_iloadn (aJ7_copyOfRangeInt_feecc 4 rfl) rfl ?_
  refine xw_isub (aJ7_copyOfRangeInt_feecc 5 rfl) ?_
  refine hw_tie (A := ((a3).toInt) - ((a2).toInt)) (i_sub rfl rfl (by omega) (by omega)) (fun x10 e11 => ?_)
  refine xw_istoren (L2 := [(3, .int (x10)), (0, .ref (base + a1)), (1, .int (a2)), (2, .int (a3))]) (aJ7_copyOfRangeInt_feecc 6 rfl) (by decide) rfl ?_
  refine xw_iloadn (aJ7_copyOfRangeInt_feecc 7 rfl) rfl ?_
  have h013 : 0 ≤ (x10).toInt ∧ (x10).toInt ≤ 4000 := by have := (e11 : (x10).toInt = ((a3).toInt) - ((a2).toInt)); omega
  have hz12 := i_cn h013.1
  refine hv_newa (k := 0) (z := (x10).toNatClampNeg) hS hF hI hR (by unfold g_dt; omega) (aJ7_copyOfRangeInt_feecc 8 rfl) rfl (by decide) (tin_1 (i := 149) rfl rfl) (i_nn h013.1) rfl (by omega) (fun n14 sl15 SH16 FI17 FL18 FR19 hsl20 nw21 => ?_)
  obtain ⟨hn22, ex23, hS24, hF25, hI26, hR27, lt28, sh29, dy30, eI31, eL32, eR33, zI34, zL35, zR36⟩ := nw21
  have lt37 := ex_lt ex23 ha1l
  have sh38 := ex_sh ex23 ha1l ha1s
  refine hw_astore (L2 := [(4, .ref (base + n)), (3, .int (x10)), (0, .ref (base + a1)), (1, .int (a2)), (2, .int (a3))]) (aJ7_copyOfRangeInt_feecc 9 rfl) (by decide) rfl ?_
  refine hw_aloadn (aJ7_copyOfRangeInt_feecc 10 rfl) rfl ?_
  refine xw_iloadn (aJ7_copyOfRangeInt_feecc 11 rfl) rfl ?_
  refine hw_aload (aJ7_copyOfRangeInt_feecc 12 rfl) rfl ?_
  refine hw_ic (v := (0 : Int32)) (aJ7_copyOfRangeInt_feecc 13 rfl) (by decide) ?_
  refine hw_aloadn (aJ7_copyOfRangeInt_feecc 14 rfl) rfl ?_
  obtain ⟨x39, h40⟩ : ∃ y, Int32.ofNat z1 = y := ⟨_, rfl⟩
  have b41 : (x39).toInt ≤ ((z1 : Nat) : Int) := by rw [← h40]; exact i_len
  have := i_rng x39
  have h40l := congrArg Int32.toInt h40
  refine hw_alen (k := 0) (v := x39) (aJ7_copyOfRangeInt_feecc 15 rfl) lt37 sh38 (by decide) h40 ?_
  have hz42 := i_ofl gg0.2
  have e43 : 0 ≤ (x39).toInt ∧ (x39).toInt ≤ 2147483647 := by omega
  refine xw_iloadn (aJ7_copyOfRangeInt_feecc 16 rfl) rfl ?_
  refine xw_isub (aJ7_copyOfRangeInt_feecc 17 rfl) ?_
  refine hw_tie (A := ((x39).toInt) - ((a2).toInt)) (i_sub rfl rfl (by omega) (by omega)) (fun x44 e45 => ?_)
  refine xw_iloadn (aJ7_copyOfRangeInt_feecc 18 rfl) rfl ?_
  refine hw_callS (As := [.int (x44), .int (x10)]) (rest := [.int ((0 : Int32)), .ref (base + n), .int (a2), .ref (base + a1)]) (aJ7_copyOfRangeInt_feecc 19 rfl) wc_RJ7_304 (by decide) rfl wt_yJ9_min_7cf53 rfl rfl (Nat.le_of_ble_eq_true rfl) (Nat.le_of_ble_eq_true rfl) (k_J9_min_7cf53 (d := d) hS24 hF25 hI26 hR27 (x44) (x10) ) (fun v46 sv47 p48 => ?_)
  have := (e45 : (x44).toInt = ((x39).toInt) - ((a2).toInt))
  have := (e11 : (x10).toInt = ((a3).toInt) - ((a2).toInt))
  have := (e45 : (x44).toInt = ((x39).toInt) - ((a2).toInt))
  have := (e11 : (x10).toInt = ((a3).toInt) - ((a2).toInt))
  obtain ⟨r49, rfl, rfl, t53, t54⟩ := p48
  have rg_r49 := i_rng r49
  show hw sk base _ _ _ _ _ [.int (r49), .int ((0 : Int32)), .ref (base + n), .int (a2), .ref (base + a1)] _ _
  have hc57z : 0 ≤ (a2).toInt := by omega
  have hc57 : 0 ≤ (a2).toInt ∧ ((a2).toNatClampNeg : Int) = (a2).toInt := ⟨hc57z, i_cn hc57z⟩
  have hc58 : 0 ≤ ((0 : Int32)).toInt ∧ (((0 : Int32)).toNatClampNeg : Int) = 0 := by decide
  have hc59z : 0 ≤ (r49).toInt := by omega
  have hc59 : 0 ≤ (r49).toInt ∧ ((r49).toNatClampNeg : Int) = (r49).toInt := ⟨hc59z, i_cn hc59z⟩
  refine hv_cpy (aJ7_copyOfRangeInt_feecc 20 rfl) (tin_2 (i := 174) rfl rfl) (tin_2 (i := 176) rfl rfl) (tin_2 (i := 175) rfl rfl) (tin_1 (i := 13) rfl rfl) lt37 sh38 lt28 sh29 (i_nn hc57.1) (i_nn hc58.1) (i_nn hc59.1) (by omega) (by have := ((by decide : (0 : Int32).toInt = 0) : ((0 : Int32)).toInt = 0); omega) (Nat.le_of_ble_eq_true rfl) (fun FI60 e61 => ?_)
  have hI62 := gI_off hI26 dy30 e61
  refine hw_aload (aJ7_copyOfRangeInt_feecc 21 rfl) rfl ?_
  refine xw_aret (v := h_rf base (some (n))) (aJ7_copyOfRangeInt_feecc 22 rfl) rfl (by first | exact Or.inl ⟨_, rfl⟩ | exact Or.inr ⟨_, rfl⟩) ?_
  exact ⟨some (n), rfl, n14, sl15, SH16, FI60, FL18, FR19, rfl, ex23, hS24, hI62, (gf_al (gf_al gf_rf (Nat.le_refl _) eI31) (Nat.le_refl _) e61), (gf_al gf_rf (Nat.le_refl _) eL32), (gf_al gf_rf (Nat.le_refl _) eR33), hF25, hR27, (by omega), (by omega), ((fun r e => by cases e; exact ⟨lt28, (Or.inr dy30), by rw [sh29]⟩)), (by simp), (fun q e => by cases e; exact (Nat.le_refl _))⟩
def nJ7_copyOfRange_feecc : Nat := 0xb03d01c03c01b62ab05f01b81c1b2a0a009fbe2a1c09009a1b
theorem bJ7_copyOfRange_feecc : cJ7_copyOfRange_feecc.data.toList.map UInt8.toNat = x_un nJ7_copyOfRange_feecc 25 := by decide +kernel
def iJ7_copyOfRange_feecc : List (Nat × Jvm.ClassFile.Instr × Nat) := [(0, .iload_n 1, 1), (1, .ifCond .ne 9, 3), (4, .iload_n 2, 1), (5, .aload_n 0, 1), (6, .arraylength, 1), (7, .if_icmp .eq 10, 3), (10, .aload_n 0, 1), (11, .iload_n 1, 1), (12, .iload_n 2, 1), (13, .invokestatic 351, 3), (16, .areturn, 1), (17, .aload_n 0, 1), (18, .invokevirtual 316, 3), (21, .checkcast 317, 3), (24, .areturn, 1)]
theorem dJ7_copyOfRange_feecc : x_il nJ7_copyOfRange_feecc 25 iJ7_copyOfRange_feecc = true := by decide +kernel
theorem aJ7_copyOfRange_feecc (k : Nat) {pc : Nat} {i : Jvm.ClassFile.Instr} {len : Nat} (hk : iJ7_copyOfRange_feecc[k]? = some (pc, i, len)) : x_at xMM 296 pc i len yJ7_copyOfRange_feecc 3 (some (.array .int)) := ⟨cJ7_copyOfRange_feecc, rfl, x_il_ok bJ7_copyOfRange_feecc dJ7_copyOfRange_feecc k hk⟩
set_option maxHeartbeats 4000000 in
set_option maxRecDepth 100000 in
theorem k_J7_copyOfRange_feecc {sk : xK} {base d n sl : Nat} {SH : Nat → Nat × Nat} {FI : Nat → Nat → Int32} {FL : Nat → Nat → Int64} {FR : Nat → Nat → Option Nat} (hS : h_S n SH) (hF : h_FR FR) (hI : g_I FI) (hR : g_R n SH FR) (a1 : Nat) {z1 : Nat} (ha1l : a1 < n) (ha1s : SH a1 = (100, z1)) (ha1o : own a1) (a2 : Int32) (a3 : Int32) (g0 : (a2).toInt ≤ (a3).toInt ∧ (a3).toInt ≤ (a2).toInt + 20) (g1 : 0 ≤ (a2).toInt ∧ (a2).toInt ≤ 2147483647) (g2 : 0 ≤ (a3).toInt ∧ (a3).toInt ≤ 2147483647) (gg0 : (a3).toInt ≤ (z1 : Int) ∧ z1 < 2147483648) : hw sk base (d + 2) none 296 0 [(0, .ref (base + a1)), (1, .int (a2)), (2, .int (a3))] [] (n, sl, SH, FI, FL, FR) (h_A base (fun r s => ∃ n' sl' SH' FI' FL' FR', s = (n', sl', SH', FI', FL', FR') ∧ g_ex n SH n' SH' ∧ h_S n' SH' ∧ g_I FI' ∧ g_fr n (shd SH) [] [] [] FI FI' ∧ g_fr n (shd SH) [] [] [] FL FL' ∧ g_fr n (shd SH) [] [] [] FR FR' ∧ h_FR FR' ∧ g_R n' SH' FR' ∧ (n' = n + 1) ∧ ((sl' : Int) = sl + ((a3).toInt - (a2).toInt)) ∧ (∀ q, r = some q → q < n' ∧ own q ∧ SH' q = (100, (SH' q).2)) ∧ r ≠ none ∧ (∀ q, r = some q → n ≤ q))) := by
  have rg_a2 := i_rng a2
  have rg_a3 := i_rng a3
  refine xw_iloadn (aJ7_copyOfRange_feecc 0 rfl) rfl ?_
  refine hw_ifne (tgt := 10) (aJ7_copyOfRange_feecc 1 rfl) (by decide) rfl (fun cd1 => ?_) (fun cd1 => ?_)
  · refine hw_aloadn (aJ7_copyOfRange_feecc 6 rfl) rfl ?_
    refine xw_iloadn (aJ7_copyOfRange_feecc 7 rfl) rfl ?_
    refine xw_iloadn (aJ7_copyOfRange_feecc 8 rfl) rfl ?_
    refine hw_callS (As := [.ref (base + a1), .int (a2), .int (a3)]) (rest := []) (aJ7_copyOfRange_feecc 9 rfl) wc_RJ7_351 (by decide) rfl wt_yJ7_copyOfRangeInt_feecc rfl rfl (Nat.le_of_ble_eq_true rfl) (Nat.le_of_ble_eq_true rfl) (k_J7_copyOfRangeInt_feecc (d := d) hS hF hI hR (a1) ha1l ha1s ha1o (a2) (a3) (by omega) (by omega) (by omega) (gg0)) (fun v2 sv3 p4 => ?_)
    obtain ⟨r5, rfl, n19, sl20, SH21, FI6, FL7, FR8, rfl, ex22, hS23, hI9, f10, f11, f12, hF13, hR14, t15, t16, ht17, nn18, hfr24⟩ := p4
    have lt25 := ex_lt ex22 ha1l
    have sh26 := ex_sh ex22 ha1l ha1s
    obtain ⟨r27, rfl⟩ : ∃ q, r5 = some q := Option.ne_none_iff_exists'.mp nn18
    have fq28 := hfr24 r27 rfl
    have dq29 : 176 ≤ r27 := Nat.le_trans hS.1 fq28
    obtain ⟨lt31, ow32, sh33⟩ := ht17 r27 rfl
    show hw sk base _ _ _ _ _ [.ref (base + r27)] _ _
    refine xw_aret (v := h_rf base (some (r27))) (aJ7_copyOfRange_feecc 10 rfl) rfl (by first | exact Or.inl ⟨_, rfl⟩ | exact Or.inr ⟨_, rfl⟩) ?_
    exact ⟨some (r27), rfl, n19, sl20, SH21, FI6, FL7, FR8, rfl, ex22, hS23, hI9, (gf_tr ex_rf gf_rf f10 rfl rfl rfl), (gf_tr ex_rf gf_rf f11 rfl rfl rfl), (gf_tr ex_rf gf_rf f12 rfl rfl rfl), hF13, hR14, (by omega), (by omega), ((fun r e => by cases e; exact ⟨lt31, ow32, by rw [sh33]⟩)), (by simp), (fun q e => by cases e; exact (Nat.le_trans (Nat.le_refl _) fq28))⟩
  · refine xw_iloadn (aJ7_copyOfRange_feecc 2 rfl) rfl ?_
    refine hw_aloadn (aJ7_copyOfRange_feecc 3 rfl) rfl ?_
    obtain ⟨x34, h35⟩ : ∃ y, Int32.ofNat z1 = y := ⟨_, rfl⟩
    have b36 : (x34).toInt ≤ ((z1 : Nat) : Int) := by rw [← h35]; exact i_len
    have := i_rng x34
    have h35l := congrArg Int32.toInt h35
    refine hw_alen (k := 0) (v := x34) (aJ7_copyOfRange_feecc 4 rfl) ha1l ha1s (by decide) h35 ?_
    have hz37 := i_ofl gg0.2
    refine hw_iceq (tgt := 17) (aJ7_copyOfRange_feecc 5 rfl) (by decide) rfl rfl (fun cd38 => ?_) (fun cd38 => ?_)
    · refine hw_aloadn (aJ7_copyOfRange_feecc 11 rfl) rfl ?_
      refine hv_clone (z := z1) hS hF hI hR (aJ7_copyOfRange_feecc 12 rfl) (tin_2 (i := 164) rfl rfl) (tin_2 (i := 165) rfl rfl) (tin_2 (i := 166) rfl rfl) (tin_2 (i := 167) rfl rfl) (tin_2 (i := 168) rfl rfl) (nin_2 (i := 169) rfl rfl) ha1l ha1s (Nat.le_of_ble_eq_true rfl) (fun n39 sl40 SH41 FI42 FL43 FR44 hsl45 nw46 => ?_)
      obtain ⟨hn47, ex48, hS49, hF50, hI51, hR52, lt53, sh54, dy55, eI56, eL57, eR58, zI59, zL60, zR61⟩ := nw46
      have lt62 := ex_lt ex48 ha1l
      have sh63 := ex_sh ex48 ha1l ha1s
      refine hw_cast (aJ7_copyOfRange_feecc 13 rfl) (tin_2 (i := 170) rfl rfl) lt53 sh54 ?_
      refine xw_aret (v := h_rf base (some (n))) (aJ7_copyOfRange_feecc 14 rfl) rfl (by first | exact Or.inl ⟨_, rfl⟩ | exact Or.inr ⟨_, rfl⟩) ?_
      exact ⟨some (n), rfl, n39, sl40, SH41, FI42, FL43, FR44, rfl, ex48, hS49, hI51, (gf_al gf_rf (Nat.le_refl _) eI56), (gf_al gf_rf (Nat.le_refl _) eL57), (gf_al gf_rf (Nat.le_refl _) eR58), hF50, hR52, (by omega), (by omega), ((fun r e => by cases e; exact ⟨lt53, (Or.inr dy55), by rw [sh54]⟩)), (by simp), (fun q e => by cases e; exact (Nat.le_refl _))⟩
    · refine hw_aloadn (aJ7_copyOfRange_feecc 6 rfl) rfl ?_
      refine xw_iloadn (aJ7_copyOfRange_feecc 7 rfl) rfl ?_
      refine xw_iloadn (aJ7_copyOfRange_feecc 8 rfl) rfl ?_
      refine hw_callS (As := [.ref (base + a1), .int (a2), .int (a3)]) (rest := []) (aJ7_copyOfRange_feecc 9 rfl) wc_RJ7_351 (by decide) rfl wt_yJ7_copyOfRangeInt_feecc rfl rfl (Nat.le_of_ble_eq_true rfl) (Nat.le_of_ble_eq_true rfl) (k_J7_copyOfRangeInt_feecc (d := d) hS hF hI hR (a1) ha1l ha1s ha1o (a2) (a3) (by omega) (by omega) (by omega) (gg0)) (fun v64 sv65 p66 => ?_)
      obtain ⟨r67, rfl, n81, sl82, SH83, FI68, FL69, FR70, rfl, ex84, hS85, hI71, f72, f73, f74, hF75, hR76, t77, t78, ht79, nn80, hfr86⟩ := p66
      have lt87 := ex_lt ex84 ha1l
      have sh88 := ex_sh ex84 ha1l ha1s
      obtain ⟨r89, rfl⟩ : ∃ q, r67 = some q := Option.ne_none_iff_exists'.mp nn80
      have fq90 := hfr86 r89 rfl
      have dq91 : 176 ≤ r89 := Nat.le_trans hS.1 fq90
      obtain ⟨lt93, ow94, sh95⟩ := ht79 r89 rfl
      show hw sk base _ _ _ _ _ [.ref (base + r89)] _ _
      refine xw_aret (v := h_rf base (some (r89))) (aJ7_copyOfRange_feecc 10 rfl) rfl (by first | exact Or.inl ⟨_, rfl⟩ | exact Or.inr ⟨_, rfl⟩) ?_
      exact ⟨some (r89), rfl, n81, sl82, SH83, FI68, FL69, FR70, rfl, ex84, hS85, hI71, (gf_tr ex_rf gf_rf f72 rfl rfl rfl), (gf_tr ex_rf gf_rf f73 rfl rfl rfl), (gf_tr ex_rf gf_rf f74 rfl rfl rfl), hF75, hR76, (by omega), (by omega), ((fun r e => by cases e; exact ⟨lt93, ow94, by rw [sh95]⟩)), (by simp), (fun q e => by cases e; exact (Nat.le_trans (Nat.le_refl _) fq90))⟩
def nX7_letters : Nat := 0xb08000b82e1b1600b42a2e1b1300b42a1900b42ab00abc030700a42e1b1600b42a2e1b1300b42a1200a3be1900b42a2e1b1600b42a2000a22900b42a1b28009b1b
theorem bX7_letters : cX7_letters.data.toList.map UInt8.toNat = x_un nX7_letters 65 := by decide +kernel
def iX7_letters : List (Nat × Jvm.ClassFile.Instr × Nat) := [(0, .iload_n 1, 1), (1, .ifCond .lt 40, 3), (4, .iload_n 1, 1), (5, .aload_n 0, 1), (6, .getfield 41, 3), (9, .if_icmp .ge 32, 3), (12, .aload_n 0, 1), (13, .getfield 22, 3), (16, .iload_n 1, 1), (17, .iaload, 1), (18, .aload_n 0, 1), (19, .getfield 25, 3), (22, .arraylength, 1), (23, .if_icmp .gt 18, 3), (26, .aload_n 0, 1), (27, .getfield 19, 3), (30, .iload_n 1, 1), (31, .iaload, 1), (32, .aload_n 0, 1), (33, .getfield 22, 3), (36, .iload_n 1, 1), (37, .iaload, 1), (38, .if_icmp .le 7, 3), (41, .iconst 0, 1), (42, .newarray .int, 2), (44, .areturn, 1), (45, .aload_n 0, 1), (46, .getfield 25, 3), (49, .aload_n 0, 1), (50, .getfield 19, 3), (53, .iload_n 1, 1), (54, .iaload, 1), (55, .aload_n 0, 1), (56, .getfield 22, 3), (59, .iload_n 1, 1), (60, .iaload, 1), (61, .invokestatic 128, 3), (64, .areturn, 1)]
theorem dX7_letters : x_il nX7_letters 65 iX7_letters = true := by decide +kernel
theorem aX7_letters (k : Nat) {pc : Nat} {i : Jvm.ClassFile.Instr} {len : Nat} (hk : iX7_letters[k]? = some (pc, i, len)) : x_at xMM 77 pc i len yX7_letters 2 (some (.array .int)) := ⟨cX7_letters, rfl, x_il_ok bX7_letters dX7_letters k hk⟩
set_option maxHeartbeats 4000000 in
set_option maxRecDepth 100000 in
theorem k_X7_letters {sk : xK} {base d n sl : Nat} {SH : Nat → Nat × Nat} {FI : Nat → Nat → Int32} {FL : Nat → Nat → Int64} {FR : Nat → Nat → Option Nat} (hS : h_S n SH) (hF : h_FR FR) (hI : g_I FI) (hR : g_R n SH FR) (a1 : Int32) (gg0 : g_K FI) (gg1 : ∀ t, FR 111 5 = some t → (SH t).2 < 2147483648) : hw sk base (d + 3) none 77 0 [(0, .ref (base + 111)), (1, .int (a1))] [] (n, sl, SH, FI, FL, FR) (h_A base (fun r s => ∃ n' sl' SH' FI' FL' FR', s = (n', sl', SH', FI', FL', FR') ∧ g_ex n SH n' SH' ∧ h_S n' SH' ∧ g_I FI' ∧ g_fr n (shd SH) [] [] [] FI FI' ∧ g_fr n (shd SH) [] [] [] FL FL' ∧ g_fr n (shd SH) [] [] [] FR FR' ∧ h_FR FR' ∧ g_R n' SH' FR' ∧ (n' = n + 1) ∧ ((sl' : Int) ≤ sl + 20) ∧ (∀ q, r = some q → q < n' ∧ own q ∧ SH' q = (100, (SH' q).2)) ∧ r ≠ none ∧ (∀ q, r = some q → n ≤ q))) := by
  have rg_a1 := i_rng a1
  refine xw_iloadn (aX7_letters 0 rfl) rfl ?_
  refine hw_iflt (tgt := 41) (aX7_letters 1 rfl) (by decide) rfl (fun cd1 => ?_) (fun cd1 => ?_)
  · refine hw_ic (v := (0 : Int32)) (aX7_letters 23 rfl) (by decide) ?_
    refine hv_newa (k := 0) (z := 0) hS hF hI hR (by unfold g_dt; omega) (aX7_letters 24 rfl) rfl (by decide) (tin_1 (i := 149) rfl rfl) (by decide) (by decide) (by decide) (fun n2 sl3 SH4 FI5 FL6 FR7 hsl8 nw9 => ?_)
    obtain ⟨hn10, ex11, hS12, hF13, hI14, hR15, lt16, sh17, dy18, eI19, eL20, eR21, zI22, zL23, zR24⟩ := nw9
    refine xw_aret (v := h_rf base (some (n))) (aX7_letters 25 rfl) rfl (by first | exact Or.inl ⟨_, rfl⟩ | exact Or.inr ⟨_, rfl⟩) ?_
    exact ⟨some (n), rfl, n2, sl3, SH4, FI5, FL6, FR7, rfl, ex11, hS12, hI14, (gf_al gf_rf (Nat.le_refl _) eI19), (gf_al gf_rf (Nat.le_refl _) eL20), (gf_al gf_rf (Nat.le_refl _) eR21), hF13, hR15, (by omega), (by omega), ((fun r e => by cases e; exact ⟨lt16, (Or.inr dy18), by rw [sh17]⟩)), (by simp), (fun q e => by cases e; exact (Nat.le_refl _))⟩
  · refine xw_iloadn (aX7_letters 2 rfl) rfl ?_
    refine hw_aloadn (aX7_letters 3 rfl) rfl ?_
    obtain ⟨x25, h26⟩ : ∃ y, FI 111 4 = y := ⟨_, rfl⟩
    have h26l := congrArg Int32.toInt h26
    have b27 := gI_111_4 hI; rw [h26] at b27
    refine hw_get (v := .int (x25)) (aX7_letters 4 rfl) wf_RX7_41 (c111 hS) (s111 hS) (by decide) (congrArg Value.int (show FI 111 4 = x25 from h26)) ?_
    refine hw_icge (tgt := 41) (aX7_letters 5 rfl) (by decide) rfl rfl (fun cd28 => ?_) (fun cd28 => ?_)
    · refine hw_ic (v := (0 : Int32)) (aX7_letters 23 rfl) (by decide) ?_
      refine hv_newa (k := 0) (z := 0) hS hF hI hR (by unfold g_dt; omega) (aX7_letters 24 rfl) rfl (by decide) (tin_1 (i := 149) rfl rfl) (by decide) (by decide) (by decide) (fun n29 sl30 SH31 FI32 FL33 FR34 hsl35 nw36 => ?_)
      obtain ⟨hn37, ex38, hS39, hF40, hI41, hR42, lt43, sh44, dy45, eI46, eL47, eR48, zI49, zL50, zR51⟩ := nw36
      refine xw_aret (v := h_rf base (some (n))) (aX7_letters 25 rfl) rfl (by first | exact Or.inl ⟨_, rfl⟩ | exact Or.inr ⟨_, rfl⟩) ?_
      exact ⟨some (n), rfl, n29, sl30, SH31, FI32, FL33, FR34, rfl, ex38, hS39, hI41, (gf_al gf_rf (Nat.le_refl _) eI46), (gf_al gf_rf (Nat.le_refl _) eL47), (gf_al gf_rf (Nat.le_refl _) eR48), hF40, hR42, (by omega), (by omega), ((fun r e => by cases e; exact ⟨lt43, (Or.inr dy45), by rw [sh44]⟩)), (by simp), (fun q e => by cases e; exact (Nat.le_refl _))⟩
    · refine hw_aloadn (aX7_letters 6 rfl) rfl ?_
      refine hw_get (v := .ref (base + 115)) (aX7_letters 7 rfl) wf_RX7_22 (c111 hS) (s111 hS) (by decide) (congrArg (fun r => va_rf (h_rf base r)) (r111_3 hF)) ?_
      refine xw_iloadn (aX7_letters 8 rfl) rfl ?_
      obtain ⟨x52, h53⟩ : ∃ y, FI 115 (a1).toNatClampNeg = y := ⟨_, rfl⟩
      have h53l := congrArg Int32.toInt h53
      have := i_rng x52
      refine hw_iald (v := x52) (aX7_letters 9 rfl) (c115 hS) (s115 hS) (h_in rfl (by omega) (by omega)) (show FI 115 (a1).toNatClampNeg = x52 from h53) ?_
      have b54 := gI_115 hI (i_lt (x := a1) rfl (by omega) (by omega)); rw [h53] at b54
      refine hw_aloadn (aX7_letters 10 rfl) rfl ?_
      obtain ⟨o55, h56⟩ : ∃ y, FR 111 5 = y := ⟨_, rfl⟩
      have ht57 : ∀ r, o55 = some r → r < n ∧ own r ∧ SH r = (100, (SH r).2) := fun r e => gR_get hR (c111 hS) (Or.inl (by decide)) (s111 hS) (h56.trans e)
      obtain ⟨r58, rfl⟩ := gR_nn hR (by unfold g_nn; omega) h56
      obtain ⟨lt59, ow60, sh61⟩ := ht57 r58 rfl
      refine hw_get (v := .ref (base + r58)) (aX7_letters 11 rfl) wf_RX7_25 (c111 hS) (s111 hS) (by decide) (congrArg (fun r => va_rf (h_rf base r)) (show FR 111 5 = some r58 from h56)) ?_
      obtain ⟨x62, h63⟩ : ∃ y, Int32.ofNat (SH r58).2 = y := ⟨_, rfl⟩
      have b64 : (x62).toInt ≤ (((SH r58).2 : Nat) : Int) := by rw [← h63]; exact i_len
      have := i_rng x62
      refine hw_alen (k := 0) (v := x62) (aX7_letters 12 rfl) lt59 sh61 (by decide) h63 ?_
      refine hw_icgt (tgt := 41) (aX7_letters 13 rfl) (by decide) rfl rfl (fun cd65 => ?_) (fun cd65 => ?_)
      · refine hw_ic (v := (0 : Int32)) (aX7_letters 23 rfl) (by decide) ?_
        refine hv_newa (k := 0) (z := 0) hS hF hI hR (by unfold g_dt; omega) (aX7_letters 24 rfl) rfl (by decide) (tin_1 (i := 149) rfl rfl) (by decide) (by decide) (by decide) (fun n66 sl67 SH68 FI69 FL70 FR71 hsl72 nw73 => ?_)
        obtain ⟨hn74, ex75, hS76, hF77, hI78, hR79, lt80, sh81, dy82, eI83, eL84, eR85, zI86, zL87, zR88⟩ := nw73
        have lt89 := ex_lt ex75 lt59
        have sh90 := ex_sh ex75 lt59 sh61
        refine xw_aret (v := h_rf base (some (n))) (aX7_letters 25 rfl) rfl (by first | exact Or.inl ⟨_, rfl⟩ | exact Or.inr ⟨_, rfl⟩) ?_
        exact ⟨some (n), rfl, n66, sl67, SH68, FI69, FL70, FR71, rfl, ex75, hS76, hI78, (gf_al gf_rf (Nat.le_refl _) eI83), (gf_al gf_rf (Nat.le_refl _) eL84), (gf_al gf_rf (Nat.le_refl _) eR85), hF77, hR79, (by omega), (by omega), ((fun r e => by cases e; exact ⟨lt80, (Or.inr dy82), by rw [sh81]⟩)), (by simp), (fun q e => by cases e; exact (Nat.le_refl _))⟩
      · refine hw_aloadn (aX7_letters 14 rfl) rfl ?_
        refine hw_get (v := .ref (base + 114)) (aX7_letters 15 rfl) wf_RX7_19 (c111 hS) (s111 hS) (by decide) (congrArg (fun r => va_rf (h_rf base r)) (r111_2 hF)) ?_
        refine xw_iloadn (aX7_letters 16 rfl) rfl ?_
        obtain ⟨x91, h92⟩ : ∃ y, FI 114 (a1).toNatClampNeg = y := ⟨_, rfl⟩
        have h92l := congrArg Int32.toInt h92
        have := i_rng x91
        refine hw_iald (v := x91) (aX7_letters 17 rfl) (c114 hS) (s114 hS) (h_in rfl (by omega) (by omega)) (show FI 114 (a1).toNatClampNeg = x91 from h92) ?_
        have b93 := gI_114 hI (i_lt (x := a1) rfl (by omega) (by omega)); rw [h92] at b93
        refine hw_aloadn (aX7_letters 18 rfl) rfl ?_
        refine hw_get (v := .ref (base + 115)) (aX7_letters 19 rfl) wf_RX7_22 (c111 hS) (s111 hS) (by decide) (congrArg (fun r => va_rf (h_rf base r)) (r111_3 hF)) ?_
        refine xw_iloadn (aX7_letters 20 rfl) rfl ?_
        refine hw_iald (v := x52) (aX7_letters 21 rfl) (c115 hS) (s115 hS) (h_in rfl (by omega) (by omega)) (show FI 115 (a1).toNatClampNeg = x52 from h53) ?_
        refine hw_icle (tgt := 45) (aX7_letters 22 rfl) (by decide) rfl rfl (fun cd94 => ?_) (fun cd94 => ?_)
        · refine hw_aloadn (aX7_letters 26 rfl) rfl ?_
          refine hw_get (v := .ref (base + r58)) (aX7_letters 27 rfl) wf_RX7_25 (c111 hS) (s111 hS) (by decide) (congrArg (fun r => va_rf (h_rf base r)) (show FR 111 5 = some r58 from h56)) ?_
          refine hw_aloadn (aX7_letters 28 rfl) rfl ?_
          refine hw_get (v := .ref (base + 114)) (aX7_letters 29 rfl) wf_RX7_19 (c111 hS) (s111 hS) (by decide) (congrArg (fun r => va_rf (h_rf base r)) (r111_2 hF)) ?_
          refine xw_iloadn (aX7_letters 30 rfl) rfl ?_
          refine hw_iald (v := x91) (aX7_letters 31 rfl) (c114 hS) (s114 hS) (h_in rfl (by omega) (by omega)) (show FI 114 (a1).toNatClampNeg = x91 from h92) ?_
          refine hw_aloadn (aX7_letters 32 rfl) rfl ?_
          refine hw_get (v := .ref (base + 115)) (aX7_letters 33 rfl) wf_RX7_22 (c111 hS) (s111 hS) (by decide) (congrArg (fun r => va_rf (h_rf base r)) (r111_3 hF)) ?_
          refine xw_iloadn (aX7_letters 34 rfl) rfl ?_
          refine hw_iald (v := x52) (aX7_letters 35 rfl) (c115 hS) (s115 hS) (h_in rfl (by omega) (by omega)) (show FI 115 (a1).toNatClampNeg = x52 from h53) ?_
          have hq9 := i_cn (x := a1) (by omega)
          have hK9 := gg0.2.2 (a1).toNatClampNeg (by omega)
          refine hw_callS (As := [.ref (base + r58), .int (x91), .int (x52)]) (rest := []) (aX7_letters 36 rfl) wc_RX7_128 (by decide) rfl wt_yJ7_copyOfRange_feecc rfl rfl (Nat.le_of_ble_eq_true rfl) (Nat.le_of_ble_eq_true rfl) (k_J7_copyOfRange_feecc (d := d) hS hF hI hR (r58) lt59 sh61 ow60 (x91) (x52) (by omega) (by omega) (by omega) (⟨by omega, gg1 r58 (show FR 111 5 = some r58 from h56)⟩)) (fun v95 sv96 p97 => ?_)
          obtain ⟨r98, rfl, n112, sl113, SH114, FI99, FL100, FR101, rfl, ex115, hS116, hI102, f103, f104, f105, hF106, hR107, t108, t109, ht110, nn111, hfr117⟩ := p97
          have lt118 := ex_lt ex115 lt59
          have sh119 := ex_sh ex115 lt59 sh61
          obtain ⟨r120, rfl⟩ : ∃ q, r98 = some q := Option.ne_none_iff_exists'.mp nn111
          have fq121 := hfr117 r120 rfl
          have dq122 : 176 ≤ r120 := Nat.le_trans hS.1 fq121
          obtain ⟨lt124, ow125, sh126⟩ := ht110 r120 rfl
          show hw sk base _ _ _ _ _ [.ref (base + r120)] _ _
          refine xw_aret (v := h_rf base (some (r120))) (aX7_letters 37 rfl) rfl (by first | exact Or.inl ⟨_, rfl⟩ | exact Or.inr ⟨_, rfl⟩) ?_
          exact ⟨some (r120), rfl, n112, sl113, SH114, FI99, FL100, FR101, rfl, ex115, hS116, hI102, (gf_tr ex_rf gf_rf f103 rfl rfl rfl), (gf_tr ex_rf gf_rf f104 rfl rfl rfl), (gf_tr ex_rf gf_rf f105 rfl rfl rfl), hF106, hR107, (by omega), (by omega), ((fun r e => by cases e; exact ⟨lt124, ow125, by rw [sh126]⟩)), (by simp), (fun q e => by cases e; exact (Nat.le_trans (Nat.le_refl _) fq121))⟩
        · refine hw_ic (v := (0 : Int32)) (aX7_letters 23 rfl) (by decide) ?_
          refine hv_newa (k := 0) (z := 0) hS hF hI hR (by unfold g_dt; omega) (aX7_letters 24 rfl) rfl (by decide) (tin_1 (i := 149) rfl rfl) (by decide) (by decide) (by decide) (fun n127 sl128 SH129 FI130 FL131 FR132 hsl133 nw134 => ?_)
          obtain ⟨hn135, ex136, hS137, hF138, hI139, hR140, lt141, sh142, dy143, eI144, eL145, eR146, zI147, zL148, zR149⟩ := nw134
          have lt150 := ex_lt ex136 lt59
          have sh151 := ex_sh ex136 lt59 sh61
          refine xw_aret (v := h_rf base (some (n))) (aX7_letters 25 rfl) rfl (by first | exact Or.inl ⟨_, rfl⟩ | exact Or.inr ⟨_, rfl⟩) ?_
          exact ⟨some (n), rfl, n127, sl128, SH129, FI130, FL131, FR132, rfl, ex136, hS137, hI139, (gf_al gf_rf (Nat.le_refl _) eI144), (gf_al gf_rf (Nat.le_refl _) eL145), (gf_al gf_rf (Nat.le_refl _) eR146), hF138, hR140, (by omega), (by omega), ((fun r e => by cases e; exact ⟨lt141, (Or.inr dy143), by rw [sh142]⟩)), (by simp), (fun q e => by cases e; exact (Nat.le_refl _))⟩
def nX4_areSame : Nat := 0xac04ecffa7010284ac0305009f2e1c2b2e1c2a1400a2be2a1c3d03ac0305009fbe2bbe2a
theorem bX4_areSame : cX4_areSame.data.toList.map UInt8.toNat = x_un nX4_areSame 36 := by decide +kernel
def iX4_areSame : List (Nat × Jvm.ClassFile.Instr × Nat) := [(0, .aload_n 0, 1), (1, .arraylength, 1), (2, .aload_n 1, 1), (3, .arraylength, 1), (4, .if_icmp .eq 5, 3), (7, .iconst 0, 1), (8, .ireturn, 1), (9, .iconst 0, 1), (10, .istore_n 2, 1), (11, .iload_n 2, 1), (12, .aload_n 0, 1), (13, .arraylength, 1), (14, .if_icmp .ge 20, 3), (17, .aload_n 0, 1), (18, .iload_n 2, 1), (19, .iaload, 1), (20, .aload_n 1, 1), (21, .iload_n 2, 1), (22, .iaload, 1), (23, .if_icmp .eq 5, 3), (26, .iconst 0, 1), (27, .ireturn, 1), (28, .iinc 2 1, 3), (31, .goto (-20), 3), (34, .iconst 1, 1), (35, .ireturn, 1)]
theorem dX4_areSame : x_il nX4_areSame 36 iX4_areSame = true := by decide +kernel
theorem aX4_areSame (k : Nat) {pc : Nat} {i : Jvm.ClassFile.Instr} {len : Nat} (hk : iX4_areSame[k]? = some (pc, i, len)) : x_at xMM 44 pc i len yX4_areSame 3 (some .boolean) := ⟨cX4_areSame, rfl, x_il_ok bX4_areSame dX4_areSame k hk⟩
set_option maxHeartbeats 4000000 in
set_option maxRecDepth 100000 in
theorem k_X4_areSame {sk : xK} {base d n sl : Nat} {SH : Nat → Nat × Nat} {FI : Nat → Nat → Int32} {FL : Nat → Nat → Int64} {FR : Nat → Nat → Option Nat} (hS : h_S n SH) (hF : h_FR FR) (hI : g_I FI) (hR : g_R n SH FR) (a1 : Nat) {z1 : Nat} (ha1l : a1 < n) (ha1s : SH a1 = (100, z1)) (ha1o : own a1) (a2 : Nat) {z2 : Nat} (ha2l : a2 < n) (ha2s : SH a2 = (100, z2)) (ha2o : own a2) : hw sk base d none 44 0 [(0, .ref (base + a1)), (1, .ref (base + a2))] [] (n, sl, SH, FI, FL, FR) (h_I (fun r s => s = (n, sl, SH, FI, FL, FR) ∧ (0 ≤ r.toInt ∧ r.toInt ≤ 1))) := by
  refine hw_aloadn (aX4_areSame 0 rfl) rfl ?_
  obtain ⟨x1, h2⟩ : ∃ y, Int32.ofNat z1 = y := ⟨_, rfl⟩
  have b3 : (x1).toInt ≤ ((z1 : Nat) : Int) := by rw [← h2]; exact i_len
  have := i_rng x1
  have h2l := congrArg Int32.toInt h2
  refine hw_alen (k := 0) (v := x1) (aX4_areSame 1 rfl) ha1l ha1s (by decide) h2 ?_
  refine hw_aloadn (aX4_areSame 2 rfl) rfl ?_
  obtain ⟨x4, h5⟩ : ∃ y, Int32.ofNat z2 = y := ⟨_, rfl⟩
  have b6 : (x4).toInt ≤ ((z2 : Nat) : Int) := by rw [← h5]; exact i_len
  have := i_rng x4
  have h5l := congrArg Int32.toInt h5
  refine hw_alen (k := 0) (v := x4) (aX4_areSame 3 rfl) ha2l ha2s (by decide) h5 ?_
  refine hw_iceq (tgt := 9) (aX4_areSame 4 rfl) (by decide) rfl rfl (fun cd7 => ?_) (fun cd7 => ?_)
  · refine hw_ic (v := (0 : Int32)) (aX4_areSame 7 rfl) (by decide) ?_
    refine xw_istoren (L2 := [(2, .int ((0 : Int32))), (0, .ref (base + a1)), (1, .ref (base + a2))]) (aX4_areSame 8 rfl) (by decide) rfl ?_
    have lp9 : ∀ (m : Nat) (y2 : Int32), (0 ≤ (y2).toInt ∧ (y2).toInt ≤ 2147483647) → 2147483648 - (y2).toInt < m → hw sk base d none 44 11 [(2, .int (y2)), (0, .ref (base + a1)), (1, .ref (base + a2))] [] (n, sl, SH, FI, FL, FR) (h_I (fun r s => s = (n, sl, SH, FI, FL, FR) ∧ (0 ≤ r.toInt ∧ r.toInt ≤ 1))) := by
      intro m
      induction m with
      | zero => intro y2 iv8 hm; omega
      | succ m ih =>
        intro y2 iv8 hm
        have rg_y2 := i_rng y2
        refine xw_iloadn (aX4_areSame 9 rfl) rfl ?_
        refine hw_aloadn (aX4_areSame 10 rfl) rfl ?_
        obtain ⟨x10, h11⟩ : ∃ y, Int32.ofNat z1 = y := ⟨_, rfl⟩
        have b12 : (x10).toInt ≤ ((z1 : Nat) : Int) := by rw [← h11]; exact i_len
        have := i_rng x10
        have h11l := congrArg Int32.toInt h11
        refine hw_alen (k := 0) (v := x10) (aX4_areSame 11 rfl) ha1l ha1s (by decide) h11 ?_
        refine hw_icge (tgt := 34) (aX4_areSame 12 rfl) (by decide) rfl rfl (fun cd13 => ?_) (fun cd13 => ?_)
        · refine hw_ic (v := (1 : Int32)) (aX4_areSame 24 rfl) (by decide) ?_
          refine xw_iret (aX4_areSame 25 rfl) rfl (by decide) ?_
          have e14 : ((1 : Int32)).toInt = 1 := (by decide : (1 : Int32).toInt = 1)
          exact ⟨(1 : Int32), rfl, rfl, (by have : ((1 : Int32)).toInt = 1 := (by decide); omega)⟩
        · refine hw_aloadn (aX4_areSame 13 rfl) rfl ?_
          refine xw_iloadn (aX4_areSame 14 rfl) rfl ?_
          obtain ⟨x15, h16⟩ : ∃ y, FI a1 (y2).toNatClampNeg = y := ⟨_, rfl⟩
          have h16l := congrArg Int32.toInt h16
          have := i_rng x15
          refine hw_iald (v := x15) (aX4_areSame 15 rfl) ha1l ha1s (h_in rfl (by omega) (by omega)) (show FI a1 (y2).toNatClampNeg = x15 from h16) ?_
          refine hw_aloadn (aX4_areSame 16 rfl) rfl ?_
          refine xw_iloadn (aX4_areSame 17 rfl) rfl ?_
          obtain ⟨x17, h18⟩ : ∃ y, FI a2 (y2).toNatClampNeg = y := ⟨_, rfl⟩
          have h18l := congrArg Int32.toInt h18
          have := i_rng x17
          refine hw_iald (v := x17) (aX4_areSame 18 rfl) ha2l ha2s (h_in rfl (by omega) (by omega)) (show FI a2 (y2).toNatClampNeg = x17 from h18) ?_
          refine hw_iceq (tgt := 28) (aX4_areSame 19 rfl) (by decide) rfl rfl (fun cd19 => ?_) (fun cd19 => ?_)
          · obtain ⟨x20, q22⟩ : ∃ y : Int32, (y2) + Int32.ofInt (1) = y := ⟨_, rfl⟩
            have e21 : (x20).toInt = (y2).toInt + (1) := by rw [← q22]; exact i_add rfl (by decide) (by omega) (by omega)
            refine xw_iinc (L2 := [(2, .int (x20)), (0, .ref (base + a1)), (1, .ref (base + a2))]) (aX4_areSame 22 rfl) rfl (by decide) (by rw [q22]; rfl) ?_
            refine xw_goto (tgt := 11) (aX4_areSame 23 rfl) (by decide) ?_
            exact hw_L (ih (x20) (by have := (e21 : (x20).toInt = (y2).toInt + (1)); omega) (by have := (e21 : (x20).toInt = (y2).toInt + (1)); omega)) ⟨rfl, rfl, rfl, trivial⟩
          · refine hw_ic (v := (0 : Int32)) (aX4_areSame 20 rfl) (by decide) ?_
            refine xw_iret (aX4_areSame 21 rfl) rfl (by decide) ?_
            have e23 : ((0 : Int32)).toInt = 0 := (by decide : (0 : Int32).toInt = 0)
            exact ⟨(0 : Int32), rfl, rfl, (by have : ((0 : Int32)).toInt = 0 := (by decide); omega)⟩
    exact hw_L (lp9 ((2147483648 - 0 : Int).toNat + 1) ((0 : Int32)) (by have := ((by decide : (0 : Int32).toInt = 0) : ((0 : Int32)).toInt = 0); omega) (by have := ((by decide : (0 : Int32).toInt = 0) : ((0 : Int32)).toInt = 0); omega)) ⟨rfl, rfl, rfl, trivial⟩
  · refine hw_ic (v := (0 : Int32)) (aX4_areSame 5 rfl) (by decide) ?_
    refine xw_iret (aX4_areSame 6 rfl) rfl (by decide) ?_
    have e24 : ((0 : Int32)).toInt = 0 := (by decide : (0 : Int32).toInt = 0)
    exact ⟨(0 : Int32), rfl, rfl, (by have : ((0 : Int32)).toInt = 0 := (by decide); omega)⟩
def nX4_isKnown : Nat := 0xac03daffa7010284ac040500996400b82b6100b4321c1800b42a1b00a2be1800b42a1c2400a22000b42a1c3d03
theorem bX4_isKnown : cX4_isKnown.data.toList.map UInt8.toNat = x_un nX4_isKnown 45 := by decide +kernel
def iX4_isKnown : List (Nat × Jvm.ClassFile.Instr × Nat) := [(0, .iconst 0, 1), (1, .istore_n 2, 1), (2, .iload_n 2, 1), (3, .aload_n 0, 1), (4, .getfield 32, 3), (7, .if_icmp .ge 36, 3), (10, .iload_n 2, 1), (11, .aload_n 0, 1), (12, .getfield 24, 3), (15, .arraylength, 1), (16, .if_icmp .ge 27, 3), (19, .aload_n 0, 1), (20, .getfield 24, 3), (23, .iload_n 2, 1), (24, .aaload, 1), (25, .getfield 97, 3), (28, .aload_n 1, 1), (29, .invokestatic 100, 3), (32, .ifCond .eq 5, 3), (35, .iconst 1, 1), (36, .ireturn, 1), (37, .iinc 2 1, 3), (40, .goto (-38), 3), (43, .iconst 0, 1), (44, .ireturn, 1)]
theorem dX4_isKnown : x_il nX4_isKnown 45 iX4_isKnown = true := by decide +kernel
theorem aX4_isKnown (k : Nat) {pc : Nat} {i : Jvm.ClassFile.Instr} {len : Nat} (hk : iX4_isKnown[k]? = some (pc, i, len)) : x_at xMM 43 pc i len yX4_isKnown 3 (some .boolean) := ⟨cX4_isKnown, rfl, x_il_ok bX4_isKnown dX4_isKnown k hk⟩
set_option maxHeartbeats 4000000 in
set_option maxRecDepth 100000 in
theorem k_X4_isKnown {sk : xK} {base d n sl : Nat} {SH : Nat → Nat × Nat} {FI : Nat → Nat → Int32} {FL : Nat → Nat → Int64} {FR : Nat → Nat → Option Nat} (hS : h_S n SH) (hF : h_FR FR) (hI : g_I FI) (hR : g_R n SH FR) (a1 : Nat) {z1 : Nat} (ha1l : a1 < n) (ha1s : SH a1 = (100, z1)) (ha1o : own a1) (lo : Nat) (gg0 : g_PV lo SH FR (FI 110 3).toInt) : hw sk base (d + 1) none 43 0 [(0, .ref (base + 110)), (1, .ref (base + a1))] [] (n, sl, SH, FI, FL, FR) (h_I (fun r s => s = (n, sl, SH, FI, FL, FR) ∧ (0 ≤ r.toInt ∧ r.toInt ≤ 1))) := by
  obtain ⟨pv, h1, h2, h3, h4, h5⟩ := gg0
  obtain ⟨lt7, ow8, sh9⟩ := gR_get hR (c110 hS) (Or.inl (by decide)) (s110 hS) h1
  refine hw_ic (v := (0 : Int32)) (aX4_isKnown 0 rfl) (by decide) ?_
  refine xw_istoren (L2 := [(2, .int ((0 : Int32))), (0, .ref (base + 110)), (1, .ref (base + a1))]) (aX4_isKnown 1 rfl) (by decide) rfl ?_
  have lp11 : ∀ (m : Nat) (y2 : Int32), (0 ≤ (y2).toInt ∧ (y2).toInt ≤ 12) → 13 - (y2).toInt < m → hw sk base (d + 1) none 43 2 [(2, .int (y2)), (0, .ref (base + 110)), (1, .ref (base + a1))] [] (n, sl, SH, FI, FL, FR) (h_I (fun r s => s = (n, sl, SH, FI, FL, FR) ∧ (0 ≤ r.toInt ∧ r.toInt ≤ 1))) := by
    intro m
    induction m with
    | zero => intro y2 iv10 hm; omega
    | succ m ih =>
      intro y2 iv10 hm
      have rg_y2 := i_rng y2
      refine xw_iloadn (aX4_isKnown 2 rfl) rfl ?_
      refine hw_aloadn (aX4_isKnown 3 rfl) rfl ?_
      obtain ⟨x12, h13⟩ : ∃ y, FI 110 3 = y := ⟨_, rfl⟩
      have h13l := congrArg Int32.toInt h13
      have b14 := gI_110_3 hI; rw [h13] at b14
      refine hw_get (v := .int (x12)) (aX4_isKnown 4 rfl) wf_RX4_32 (c110 hS) (s110 hS) (by decide) (congrArg Value.int (show FI 110 3 = x12 from h13)) ?_
      refine hw_icge (tgt := 43) (aX4_isKnown 5 rfl) (by decide) rfl rfl (fun cd15 => ?_) (fun cd15 => ?_)
      · refine hw_ic (v := (0 : Int32)) (aX4_isKnown 23 rfl) (by decide) ?_
        refine xw_iret (aX4_isKnown 24 rfl) rfl (by decide) ?_
        have e16 : ((0 : Int32)).toInt = 0 := (by decide : (0 : Int32).toInt = 0)
        exact ⟨(0 : Int32), rfl, rfl, (by have : ((0 : Int32)).toInt = 0 := (by decide); omega)⟩
      · refine xw_iloadn (aX4_isKnown 6 rfl) rfl ?_
        refine hw_aloadn (aX4_isKnown 7 rfl) rfl ?_
        refine hw_get (v := .ref (base + pv)) (aX4_isKnown 8 rfl) wf_RX4_24 (c110 hS) (s110 hS) (by decide) (congrArg (fun r => va_rf (h_rf base r)) (show FR 110 2 = some pv from h1)) ?_
        refine hw_alen (k := 4) (z := 12) (v := (12 : Int32)) (aX4_isKnown 9 rfl) lt7 h2 (by decide) (by decide) ?_
        refine hw_icge (tgt := 43) (aX4_isKnown 10 rfl) (by decide) rfl (by decide : (12 : Int32).toInt = 12) (fun cd17 => ?_) (fun cd17 => ?_)
        · omega
        · refine hw_aloadn (aX4_isKnown 11 rfl) rfl ?_
          refine hw_get (v := .ref (base + pv)) (aX4_isKnown 12 rfl) wf_RX4_24 (c110 hS) (s110 hS) (by decide) (congrArg (fun r => va_rf (h_rf base r)) (show FR 110 2 = some pv from h1)) ?_
          refine xw_iloadn (aX4_isKnown 13 rfl) rfl ?_
          obtain ⟨r18, h19, h20, h21, h22⟩ := h5 (y2).toNatClampNeg (by have := i_cn (x := y2) (by omega); have := congrArg Int32.toInt (show FI 110 3 = x12 from h13); omega)
          obtain ⟨lt23, ow24, sh25⟩ := gR_get hR lt7 ow8 h2 h19
          obtain ⟨-, -, -, r26, h27⟩ := h22
          obtain ⟨lt28, ow29, sh30⟩ := gR_get hR lt23 ow24 sh25 h27
          refine hw_aald (k := 4) (v := some (r18)) (aX4_isKnown 14 rfl) lt7 h2 (by decide) (by decide) (h_in rfl (by omega) (by omega)) (show FR pv (y2).toNatClampNeg = some (r18) from h19) ?_
          refine hw_get (v := .ref (base + r26)) (aX4_isKnown 15 rfl) wf_RX4_97 lt23 sh25 (by decide) (congrArg (fun r => va_rf (h_rf base r)) (show FR r18 0 = some r26 from h27)) ?_
          refine hw_aloadn (aX4_isKnown 16 rfl) rfl ?_
          refine hw_callS (As := [.ref (base + r26), .ref (base + a1)]) (rest := []) (aX4_isKnown 17 rfl) wc_RX4_100 (by decide) rfl wt_yX4_areSame rfl rfl (Nat.le_of_ble_eq_true rfl) (Nat.le_of_ble_eq_true rfl) (k_X4_areSame (d := d) hS hF hI hR (r26) lt28 sh30 ow29 (a1) ha1l ha1s ha1o ) (fun v31 sv32 p33 => ?_)
          obtain ⟨r34, rfl, rfl, t38⟩ := p33
          show hw sk base _ _ _ _ _ [.int (r34)] _ _
          refine hw_ifeq (tgt := 37) (aX4_isKnown 18 rfl) (by decide) rfl (fun cd41 => ?_) (fun cd41 => ?_)
          · obtain ⟨x42, q44⟩ : ∃ y : Int32, (y2) + Int32.ofInt (1) = y := ⟨_, rfl⟩
            have e43 : (x42).toInt = (y2).toInt + (1) := by rw [← q44]; exact i_add rfl (by decide) (by omega) (by omega)
            refine xw_iinc (L2 := [(2, .int (x42)), (0, .ref (base + 110)), (1, .ref (base + a1))]) (aX4_isKnown 21 rfl) rfl (by decide) (by rw [q44]; rfl) ?_
            refine xw_goto (tgt := 2) (aX4_isKnown 22 rfl) (by decide) ?_
            exact hw_L (ih (x42) (by have := (e43 : (x42).toInt = (y2).toInt + (1)); omega) (by have := (e43 : (x42).toInt = (y2).toInt + (1)); omega)) ⟨rfl, rfl, rfl, trivial⟩
          · refine hw_ic (v := (1 : Int32)) (aX4_isKnown 19 rfl) (by decide) ?_
            refine xw_iret (aX4_isKnown 20 rfl) rfl (by decide) ?_
            have e45 : ((1 : Int32)).toInt = 1 := (by decide : (1 : Int32).toInt = 1)
            exact ⟨(1 : Int32), rfl, rfl, (by have : ((1 : Int32)).toInt = 1 := (by decide); omega)⟩
  exact hw_L (lp11 ((13 - 0 : Int).toNat + 1) ((0 : Int32)) (by have := ((by decide : (0 : Int32).toInt = 0) : ((0 : Int32)).toInt = 0); omega) (by have := ((by decide : (0 : Int32).toInt = 0) : ((0 : Int32)).toInt = 0); omega)) ⟨rfl, rfl, rfl, trivial⟩
