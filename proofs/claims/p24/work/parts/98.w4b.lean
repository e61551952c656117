def fJ0_coder_7d493 (c : Fin 11) (SH : Nat → Nat × Nat) (FI : Nat → Nat → Int32) (FL : Nat → Nat → Int64) (FR : Nat → Nat → Option Nat) : Int32 := ((0 : Int32))
set_option maxHeartbeats 4000000 in
set_option maxRecDepth 100000 in
theorem rJ0_coder_7d493 {sk : xK} {base N d : Nat} (hkb : x_kb sk base) (c : Fin 11) (n sl : Nat) (SH : Nat → Nat × Nat) (FI : Nat → Nat → Int32) (FL : Nat → Nat → Int64) (FR : Nat → Nat → Option Nat) (hok : pk n SH FR)  : pw pj_I sk base N d none 271 0 [(0, .ref (sk.1 (c).val))] [] (n, sl, SH, FI, FL, FR) (P_ret (fJ0_coder_7d493 c SH FI FL FR) (n, sl, SH, FI, FL, FR)) := by
  unfold fJ0_coder_7d493
  refine pw_sone aJ0_coder_7d493_0 us_RJ0_38 ?_
  refine pw_ite2 (pw_ifeq (tgt := 13) (aJ0_coder_7d493 0 rfl) (by decide) (fun b0 => ?_) (fun b0 => ?_))
  · exact absurd b0 (by decide)
  · skip
    refine pw_aloadn (aJ0_coder_7d493 1 rfl) rfl ?_
    refine pw_scod (k := c) hkb (aJ0_coder_7d493 2 rfl) us_RJ0_15 ?_
    refine pw_goto (tgt := 14) (aJ0_coder_7d493 3 rfl) (by decide) ?_
    exact pw_iret (aJ0_coder_7d493 5 rfl) hok
def fJ0_isLatin1_aae02 (c : Fin 11) (SH : Nat → Nat × Nat) (FI : Nat → Nat → Int32) (FL : Nat → Nat → Int64) (FR : Nat → Nat → Option Nat) : Int32 := ((1 : Int32))
set_option maxHeartbeats 4000000 in
set_option maxRecDepth 100000 in
theorem rJ0_isLatin1_aae02 {sk : xK} {base N d : Nat} (hkb : x_kb sk base) (c : Fin 11) (n sl : Nat) (SH : Nat → Nat × Nat) (FI : Nat → Nat → Int32) (FL : Nat → Nat → Int64) (FR : Nat → Nat → Option Nat) (hok : pk n SH FR)  : pw pj_I sk base N d none 274 0 [(0, .ref (sk.1 (c).val))] [] (n, sl, SH, FI, FL, FR) (P_ret (fJ0_isLatin1_aae02 c SH FI FL FR) (n, sl, SH, FI, FL, FR)) := by
  unfold fJ0_isLatin1_aae02
  refine pw_sone aJ0_isLatin1_aae02_0 us_RJ0_38 ?_
  refine pw_ite2 (pw_ifeq (tgt := 17) (aJ0_isLatin1_aae02 0 rfl) (by decide) (fun b0 => ?_) (fun b0 => ?_))
  · exact absurd b0 (by decide)
  · skip
    refine pw_aloadn (aJ0_isLatin1_aae02 1 rfl) rfl ?_
    refine pw_scod (k := c) hkb (aJ0_isLatin1_aae02 2 rfl) us_RJ0_15 ?_
    refine pw_ite1 (pw_ifne (tgt := 17) (aJ0_isLatin1_aae02 3 rfl) (by decide) (fun b1 => ?_) (fun b1 => ?_))
    · skip
      refine pw_iconst (v := (1 : Int32)) (aJ0_isLatin1_aae02 4 rfl) rfl ?_
      refine pw_goto (tgt := 18) (aJ0_isLatin1_aae02 5 rfl) (by decide) ?_
      exact pw_iret (aJ0_isLatin1_aae02 7 rfl) hok
    · exact absurd (show ((0 : Int32)).toInt = 0 by decide) b1
def fJ0_length_8abf5 (c : Fin 11) (SH : Nat → Nat × Nat) (FI : Nat → Nat → Int32) (FL : Nat → Nat → Int64) (FR : Nat → Nat → Option Nat) : Int32 := ((Int32.ofNat (x_strN.getD (c).val 0)) >>> (((0 : Int32)) &&& 31))
set_option maxHeartbeats 4000000 in
set_option maxRecDepth 100000 in
theorem rJ0_length_8abf5 {sk : xK} {base N d : Nat} (hkb : x_kb sk base) (c : Fin 11) (n sl : Nat) (SH : Nat → Nat × Nat) (FI : Nat → Nat → Int32) (FL : Nat → Nat → Int64) (FR : Nat → Nat → Option Nat) (hok : pk n SH FR)  : pw pj_I sk base N d none 275 0 [(0, .ref (sk.1 (c).val))] [] (n, sl, SH, FI, FL, FR) (P_ret (fJ0_length_8abf5 c SH FI FL FR) (n, sl, SH, FI, FL, FR)) := by
  unfold fJ0_length_8abf5
  refine pw_aloadn (aJ0_length_8abf5 0 rfl) rfl ?_
  refine pw_sval (k := c) hkb (aJ0_length_8abf5 1 rfl) us_RJ0_9 ?_
  refine pw_strl (k := c) hkb (aJ0_length_8abf5 2 rfl) ?_
  refine pw_aloadn (aJ0_length_8abf5 3 rfl) rfl ?_
  refine pw_cf (pw_callT (k := c) (Bs := []) (rest := [.int (Int32.ofNat (x_strN.getD (c).val 0))]) hkb (aJ0_length_8abf5 4 rfl) um_RJ0_335 ujJ0_coder_7d493 wc_RJ0_335.2.2.2.2 (by decide) rfl rfl (fun d => rJ0_coder_7d493 hkb (c) n sl SH FI FL FR hok) (fun v0 n0 sl0 SH0 FI0 FL0 FR0 _ hC => ?_))
  obtain ⟨rfl, hC⟩ := hC; cases hC
  show pw _ _ _ _ _ _ _ 9 _ [.int ((0 : Int32)), .int (Int32.ofNat (x_strN.getD (c).val 0))] _ _
  refine pw_ishr (aJ0_length_8abf5 5 rfl) ?_
  exact pw_iret (aJ0_length_8abf5 6 rfl) hok
def RJ3_checkIndex_8e157 (a1 : Int32) (a2 : Int32) (n sl : Nat) (SH : Nat → Nat × Nat) (FI : Nat → Nat → Int32) (FL : Nat → Nat → Int64) (FR : Nat → Nat → Option Nat) : Int32 → hS → Prop := (P_if ((a1).toInt < 0) (fun _ _ => False) (P_if ((a1).toInt < (a2).toInt) (P_ret (a1) (n, sl, SH, FI, FL, FR)) (fun _ _ => False)))
set_option maxHeartbeats 4000000 in
set_option maxRecDepth 100000 in
theorem rJ3_checkIndex_8e157 {sk : xK} {base N d : Nat} (hkb : x_kb sk base) (a1 : Int32) (a2 : Int32) (n sl : Nat) (SH : Nat → Nat × Nat) (FI : Nat → Nat → Int32) (FL : Nat → Nat → Int64) (FR : Nat → Nat → Option Nat) (hok : pk n SH FR)  : pw pj_I sk base N d none 293 0 [(0, .int (a1)), (1, .int (a2)), (2, va_rf sk.2.2)] [] (n, sl, SH, FI, FL, FR) (RJ3_checkIndex_8e157 a1 a2 n sl SH FI FL FR) := by
  unfold RJ3_checkIndex_8e157
  refine pw_iloadn (aJ3_checkIndex_8e157 0 rfl) rfl ?_
  refine pw_iflt (tgt := 9) (aJ3_checkIndex_8e157 1 rfl) (by decide) (fun b0 => ?_) (fun b0 => ?_)
  · skip
    refine pw_aloadn (aJ3_checkIndex_8e157 5 rfl) rfl ?_
    refine pw_iloadn (aJ3_checkIndex_8e157 6 rfl) rfl ?_
    refine pw_iloadn (aJ3_checkIndex_8e157 7 rfl) rfl ?_
    exact pw_nolk (aJ3_checkIndex_8e157 8 rfl) ul_RJ3_95
  · skip
    refine pw_iloadn (aJ3_checkIndex_8e157 2 rfl) rfl ?_
    refine pw_iloadn (aJ3_checkIndex_8e157 3 rfl) rfl ?_
    refine pw_iclt (tgt := 16) (aJ3_checkIndex_8e157 4 rfl) (by decide) (fun b1 => ?_) (fun b1 => ?_)
    · skip
      refine pw_iloadn (aJ3_checkIndex_8e157 9 rfl) rfl ?_
      exact pw_iret (aJ3_checkIndex_8e157 10 rfl) hok
    · skip
      refine pw_aloadn (aJ3_checkIndex_8e157 5 rfl) rfl ?_
      refine pw_iloadn (aJ3_checkIndex_8e157 6 rfl) rfl ?_
      refine pw_iloadn (aJ3_checkIndex_8e157 7 rfl) rfl ?_
      exact pw_nolk (aJ3_checkIndex_8e157 8 rfl) ul_RJ3_95
def RJ0_checkIndex_df160 (a1 : Int32) (a2 : Int32) (n sl : Nat) (SH : Nat → Nat × Nat) (FI : Nat → Nat → Int32) (FL : Nat → Nat → Int64) (FR : Nat → Nat → Option Nat) : Unit → hS → Prop := (P_bi (RJ3_checkIndex_8e157 (a1) (a2) n sl SH FI FL FR) (fun v0 n0 sl0 SH0 FI0 FL0 FR0 => (P_ret () (n0, sl0, SH0, FI0, FL0, FR0))))
set_option maxHeartbeats 4000000 in
set_option maxRecDepth 100000 in
theorem rJ0_checkIndex_df160 {sk : xK} {base N d : Nat} (hkb : x_kb sk base) (a1 : Int32) (a2 : Int32) (n sl : Nat) (SH : Nat → Nat × Nat) (FI : Nat → Nat → Int32) (FL : Nat → Nat → Int64) (FR : Nat → Nat → Option Nat) (hok : pk n SH FR)  : pw pj_V sk base N d none 270 0 [(0, .int (a1)), (1, .int (a2))] [] (n, sl, SH, FI, FL, FR) (RJ0_checkIndex_df160 a1 a2 n sl SH FI FL FR) := by
  unfold RJ0_checkIndex_df160
  refine pw_iloadn (aJ0_checkIndex_df160 0 rfl) rfl ?_
  refine pw_iloadn (aJ0_checkIndex_df160 1 rfl) rfl ?_
  refine pw_sfmt aJ0_checkIndex_df160_2 us_RJ0_1053 ?_
  refine pw_callS (As := [.int (a1), .int (a2), va_rf sk.2.2]) (L2 := [(0, .int (a1)), (1, .int (a2)), (2, va_rf sk.2.2)]) (rest := []) (aJ0_checkIndex_df160 2 rfl) um_RJ0_1059 ujJ3_checkIndex_8e157 wc_RJ0_1059.2.2.2.2 (by decide) rfl (by first | rfl | simp [lv_args, va_cat, va_ci, va_cl, va_cr, va_cn]) (fun d => rJ3_checkIndex_8e157 hkb (a1) (a2) n sl SH FI FL FR hok) (fun v0 n0 sl0 SH0 FI0 FL0 FR0 hok0 _ => ?_)
  show pw _ _ _ _ _ _ _ 8 _ [.int (v0)] _ _
  refine pw_pop (aJ0_checkIndex_df160 3 rfl) ?_
  exact pw_vret (aJ0_checkIndex_df160 4 rfl) hok0
def RJ1_charAt_3b067 (a1 : Fin 11) (a2 : Int32) (n sl : Nat) (SH : Nat → Nat × Nat) (FI : Nat → Nat → Int32) (FL : Nat → Nat → Int64) (FR : Nat → Nat → Option Nat) : Int32 → hS → Prop := (P_bi (RJ0_checkIndex_df160 (a2) (Int32.ofNat (x_strN.getD (a1).val 0)) n sl SH FI FL FR) (fun v0 n0 sl0 SH0 FI0 FL0 FR0 => (P_and (p_in (a2) (x_strN.getD (a1).val 0)) (P_ret (((((x_strB.getD (a1).val []).getD (a2).toInt.toNat 0) &&& ((255 : Int32))).toUInt32 % 65536).toInt32) (n0, sl0, SH0, FI0, FL0, FR0)))))
set_option maxHeartbeats 4000000 in
set_option maxRecDepth 100000 in
theorem rJ1_charAt_3b067 {sk : xK} {base N d : Nat} (hkb : x_kb sk base) (a1 : Fin 11) (a2 : Int32) (n sl : Nat) (SH : Nat → Nat × Nat) (FI : Nat → Nat → Int32) (FL : Nat → Nat → Int64) (FR : Nat → Nat → Option Nat) (hok : pk n SH FR)  : pw pj_I sk base N d none 280 0 [(0, .ref (sk.2.1 (a1).val)), (1, .int (a2))] [] (n, sl, SH, FI, FL, FR) (RJ1_charAt_3b067 a1 a2 n sl SH FI FL FR) := by
  unfold RJ1_charAt_3b067
  refine pw_iloadn (aJ1_charAt_3b067 0 rfl) rfl ?_
  refine pw_aloadn (aJ1_charAt_3b067 1 rfl) rfl ?_
  refine pw_strl (k := a1) hkb (aJ1_charAt_3b067 2 rfl) ?_
  refine pw_callS (As := [.int (a2), .int (Int32.ofNat (x_strN.getD (a1).val 0))]) (rest := []) (aJ1_charAt_3b067 3 rfl) um_RJ1_9 ujJ0_checkIndex_df160 wc_RJ1_9.2.2.2.2 (by decide) rfl rfl (fun d => rJ0_checkIndex_df160 hkb (a2) (Int32.ofNat (x_strN.getD (a1).val 0)) n sl SH FI FL FR hok) (fun v0 n0 sl0 SH0 FI0 FL0 FR0 hok0 _ => ?_)
  show pw _ _ _ _ _ _ _ 6 _ [] _ _
  refine pw_aloadn (aJ1_charAt_3b067 4 rfl) rfl ?_
  refine pw_iloadn (aJ1_charAt_3b067 5 rfl) rfl ?_
  refine pw_sbld (k := a1) hkb (aJ1_charAt_3b067 6 rfl) (fun _ => ?_)
  refine pw_sipush (v := (255 : Int32)) (aJ1_charAt_3b067 7 rfl) rfl ?_
  refine pw_iand (aJ1_charAt_3b067 8 rfl) ?_
  refine pw_i2c (aJ1_charAt_3b067 9 rfl) ?_
  exact pw_iret (aJ1_charAt_3b067 10 rfl) hok0
def RJ0_charAt_5068e (c : Fin 11) (a1 : Int32) (n sl : Nat) (SH : Nat → Nat × Nat) (FI : Nat → Nat → Int32) (FL : Nat → Nat → Int64) (FR : Nat → Nat → Option Nat) : Int32 → hS → Prop := (P_if (((1 : Int32)).toInt = 0) (fun _ _ => False) (P_bi (RJ1_charAt_3b067 (c) (a1) n sl SH FI FL FR) (fun v2 n2 sl2 SH2 FI2 FL2 FR2 => (P_ret (v2) (n2, sl2, SH2, FI2, FL2, FR2)))))
set_option maxHeartbeats 4000000 in
set_option maxRecDepth 100000 in
theorem rJ0_charAt_5068e {sk : xK} {base N d : Nat} (hkb : x_kb sk base) (c : Fin 11) (a1 : Int32) (n sl : Nat) (SH : Nat → Nat × Nat) (FI : Nat → Nat → Int32) (FL : Nat → Nat → Int64) (FR : Nat → Nat → Option Nat) (hok : pk n SH FR)  : pw pj_I sk base N d none 268 0 [(0, .ref (sk.1 (c).val)), (1, .int (a1))] [] (n, sl, SH, FI, FL, FR) (RJ0_charAt_5068e c a1 n sl SH FI FL FR) := by
  unfold RJ0_charAt_5068e
  refine pw_aloadn (aJ0_charAt_5068e 0 rfl) rfl ?_
  refine pw_cf (pw_callT (k := c) (Bs := []) (rest := []) hkb (aJ0_charAt_5068e 1 rfl) um_RJ0_492 ujJ0_isLatin1_aae02 wc_RJ0_492.2.2.2.2 (by decide) rfl rfl (fun d => rJ0_isLatin1_aae02 hkb (c) n sl SH FI FL FR hok) (fun v0 n0 sl0 SH0 FI0 FL0 FR0 _ hC => ?_))
  obtain ⟨rfl, hC⟩ := hC; cases hC
  show pw _ _ _ _ _ _ _ 4 _ [.int ((1 : Int32))] _ _
  refine pw_ifeq (tgt := 16) (aJ0_charAt_5068e 2 rfl) (by decide) (fun b1 => ?_) (fun b1 => ?_)
  · exact absurd b1 (by decide)
  · skip
    refine pw_aloadn (aJ0_charAt_5068e 3 rfl) rfl ?_
    refine pw_sval (k := c) hkb (aJ0_charAt_5068e 4 rfl) us_RJ0_9 ?_
    refine pw_iloadn (aJ0_charAt_5068e 5 rfl) rfl ?_
    refine pw_callS (As := [.ref (sk.2.1 (c).val), .int (a1)]) (rest := []) (aJ0_charAt_5068e 6 rfl) um_RJ0_495 ujJ1_charAt_3b067 wc_RJ0_495.2.2.2.2 (by decide) rfl rfl (fun d => rJ1_charAt_3b067 hkb (c) (a1) n sl SH FI FL FR hok) (fun v2 n2 sl2 SH2 FI2 FL2 FR2 hok2 _ => ?_)
    show pw _ _ _ _ _ _ _ 15 _ [.int (v2)] _ _
    exact pw_iret (aJ0_charAt_5068e 7 rfl) hok2
def fJ9_max_7cf53 (a1 : Int32) (a2 : Int32) (SH : Nat → Nat × Nat) (FI : Nat → Nat → Int32) (FL : Nat → Nat → Int64) (FR : Nat → Nat → Option Nat) : Int32 := (if (a1).toInt < (a2).toInt then (a2) else (a1))
set_option maxHeartbeats 4000000 in
set_option maxRecDepth 100000 in
theorem rJ9_max_7cf53 {sk : xK} {base N d : Nat} (hkb : x_kb sk base) (a1 : Int32) (a2 : Int32) (n sl : Nat) (SH : Nat → Nat × Nat) (FI : Nat → Nat → Int32) (FL : Nat → Nat → Int64) (FR : Nat → Nat → Option Nat) (hok : pk n SH FR)  : pw pj_I sk base N d none 299 0 [(0, .int (a1)), (1, .int (a2))] [] (n, sl, SH, FI, FL, FR) (P_ret (fJ9_max_7cf53 a1 a2 SH FI FL FR) (n, sl, SH, FI, FL, FR)) := by
  unfold fJ9_max_7cf53
  refine pw_iloadn (aJ9_max_7cf53 0 rfl) rfl ?_
  refine pw_iloadn (aJ9_max_7cf53 1 rfl) rfl ?_
  refine pw_ite (pw_iclt (tgt := 9) (aJ9_max_7cf53 2 rfl) (by decide) (fun b0 => ?_) (fun b0 => ?_))
  · skip
    refine pw_iloadn (aJ9_max_7cf53 5 rfl) rfl ?_
    exact pw_iret (aJ9_max_7cf53 6 rfl) hok
  · skip
    refine pw_iloadn (aJ9_max_7cf53 3 rfl) rfl ?_
    refine pw_goto (tgt := 10) (aJ9_max_7cf53 4 rfl) (by decide) ?_
    exact pw_iret (aJ9_max_7cf53 6 rfl) hok
def fJ9_min_7cf53 (a1 : Int32) (a2 : Int32) (SH : Nat → Nat × Nat) (FI : Nat → Nat → Int32) (FL : Nat → Nat → Int64) (FR : Nat → Nat → Option Nat) : Int32 := (if (a2).toInt < (a1).toInt then (a2) else (a1))
set_option maxHeartbeats 4000000 in
set_option maxRecDepth 100000 in
theorem rJ9_min_7cf53 {sk : xK} {base N d : Nat} (hkb : x_kb sk base) (a1 : Int32) (a2 : Int32) (n sl : Nat) (SH : Nat → Nat × Nat) (FI : Nat → Nat → Int32) (FL : Nat → Nat → Int64) (FR : Nat → Nat → Option Nat) (hok : pk n SH FR)  : pw pj_I sk base N d none 300 0 [(0, .int (a1)), (1, .int (a2))] [] (n, sl, SH, FI, FL, FR) (P_ret (fJ9_min_7cf53 a1 a2 SH FI FL FR) (n, sl, SH, FI, FL, FR)) := by
  unfold fJ9_min_7cf53
  refine pw_iloadn (aJ9_min_7cf53 0 rfl) rfl ?_
  refine pw_iloadn (aJ9_min_7cf53 1 rfl) rfl ?_
  refine pw_ite (pw_icgt (tgt := 9) (aJ9_min_7cf53 2 rfl) (by decide) (fun b0 => ?_) (fun b0 => ?_))
  · skip
    refine pw_iloadn (aJ9_min_7cf53 5 rfl) rfl ?_
    exact pw_iret (aJ9_min_7cf53 6 rfl) hok
  · skip
    refine pw_iloadn (aJ9_min_7cf53 3 rfl) rfl ?_
    refine pw_goto (tgt := 10) (aJ9_min_7cf53 4 rfl) (by decide) ?_
    exact pw_iret (aJ9_min_7cf53 6 rfl) hok
def fJ1_canEncode_9a6ad (a1 : Int32) (SH : Nat → Nat × Nat) (FI : Nat → Nat → Int32) (FL : Nat → Nat → Int64) (FR : Nat → Nat → Option Nat) : Int32 := (if (a1).toInt < 0 then ((0 : Int32)) else (if ((255 : Int32)).toInt < (a1).toInt then ((0 : Int32)) else ((1 : Int32))))
set_option maxHeartbeats 4000000 in
set_option maxRecDepth 100000 in
theorem rJ1_canEncode_9a6ad {sk : xK} {base N d : Nat} (hkb : x_kb sk base) (a1 : Int32) (n sl : Nat) (SH : Nat → Nat × Nat) (FI : Nat → Nat → Int32) (FL : Nat → Nat → Int64) (FR : Nat → Nat → Option Nat) (hok : pk n SH FR)  : pw pj_I sk base N d none 279 0 [(0, .int (a1))] [] (n, sl, SH, FI, FL, FR) (P_ret (fJ1_canEncode_9a6ad a1 SH FI FL FR) (n, sl, SH, FI, FL, FR)) := by
  unfold fJ1_canEncode_9a6ad
  refine pw_iloadn (aJ1_canEncode_9a6ad 0 rfl) rfl ?_
  refine pw_ite (pw_iflt (tgt := 15) (aJ1_canEncode_9a6ad 1 rfl) (by decide) (fun b0 => ?_) (fun b0 => ?_))
  · skip
    refine pw_iconst (v := (0 : Int32)) (aJ1_canEncode_9a6ad 7 rfl) rfl ?_
    exact pw_iret (aJ1_canEncode_9a6ad 8 rfl) hok
  · skip
    refine pw_iloadn (aJ1_canEncode_9a6ad 2 rfl) rfl ?_
    refine pw_sipush (v := (255 : Int32)) (aJ1_canEncode_9a6ad 3 rfl) rfl ?_
    refine pw_ite (pw_icgt (tgt := 15) (aJ1_canEncode_9a6ad 4 rfl) (by decide) (fun b1 => ?_) (fun b1 => ?_))
    · skip
      refine pw_iconst (v := (0 : Int32)) (aJ1_canEncode_9a6ad 7 rfl) rfl ?_
      exact pw_iret (aJ1_canEncode_9a6ad 8 rfl) hok
    · skip
      refine pw_iconst (v := (1 : Int32)) (aJ1_canEncode_9a6ad 5 rfl) rfl ?_
      refine pw_goto (tgt := 16) (aJ1_canEncode_9a6ad 6 rfl) (by decide) ?_
      exact pw_iret (aJ1_canEncode_9a6ad 8 rfl) hok
def BJ1_indexOfChar_4cfef_7 (K7 : Int32 → Int32 → Nat → Nat → (Nat → Nat × Nat) → (Nat → Nat → Int32) → (Nat → Nat → Int64) → (Nat → Nat → Option Nat) → Int32 → hS → Prop) (a1 : Fin 11) (a2 : Int32) (a3 : Int32) (a4 : Int32) (l4i : Int32) (l5i : Int32) (n sl : Nat) (SH : Nat → Nat × Nat) (FI : Nat → Nat → Int32) (FL : Nat → Nat → Int64) (FR : Nat → Nat → Option Nat) : Int32 → hS → Prop := (P_if ((l5i).toInt < (a4).toInt) (P_and (p_in (l5i) (x_strN.getD (a1).val 0)) (P_if (((x_strB.getD (a1).val []).getD (l5i).toInt.toNat 0).toInt = (l4i).toInt) (P_ret (l5i) (n, sl, SH, FI, FL, FR)) (K7 (l4i) ((l5i) + (1 : Int32)) n sl SH FI FL FR))) (P_ret ((-1 : Int32)) (n, sl, SH, FI, FL, FR)))
set_option maxHeartbeats 4000000 in
set_option maxRecDepth 100000 in
theorem bJ1_indexOfChar_4cfef_7 {sk : xK} {base N d : Nat} {K7 : Int32 → Int32 → Nat → Nat → (Nat → Nat × Nat) → (Nat → Nat → Int32) → (Nat → Nat → Int64) → (Nat → Nat → Option Nat) → Int32 → hS → Prop} (hkb : x_kb sk base) (a1 : Fin 11) (a2 : Int32) (a3 : Int32) (a4 : Int32) (l4i : Int32) (l5i : Int32)  (n sl : Nat) (SH : Nat → Nat × Nat) (FI : Nat → Nat → Int32) (FL : Nat → Nat → Int64) (FR : Nat → Nat → Option Nat) (hok : pk n SH FR)  (hK7 : ∀ (l4i : Int32) (l5i : Int32) (n sl : Nat) (SH : Nat → Nat × Nat) (FI : Nat → Nat → Int32) (FL : Nat → Nat → Int64) (FR : Nat → Nat → Option Nat), pk n SH FR → pw pj_I sk base N d none 281 7 [(0, .ref (sk.2.1 (a1).val)), (1, .int (a2)), (2, .int (a3)), (3, .int (a4)), (4, .int (l4i)), (5, .int (l5i))] [] (n, sl, SH, FI, FL, FR) (K7 l4i l5i n sl SH FI FL FR)) : pw pj_I sk base (N + 1) d none 281 7 [(0, .ref (sk.2.1 (a1).val)), (1, .int (a2)), (2, .int (a3)), (3, .int (a4)), (4, .int (l4i)), (5, .int (l5i))] [] (n, sl, SH, FI, FL, FR) (BJ1_indexOfChar_4cfef_7 K7 a1 a2 a3 a4 l4i l5i n sl SH FI FL FR) := by
  unfold BJ1_indexOfChar_4cfef_7
  refine pd_iload (aJ1_indexOfChar_4cfef 4 rfl) rfl ?_
  refine pw_iloadn (aJ1_indexOfChar_4cfef 5 rfl) rfl ?_
  refine pw_icge (tgt := 31) (aJ1_indexOfChar_4cfef 6 rfl) (by decide) (fun b0 => ?_) (fun b0 => ?_)
  · skip
    refine pw_aloadn (aJ1_indexOfChar_4cfef 7 rfl) rfl ?_
    refine pw_iload (aJ1_indexOfChar_4cfef 8 rfl) rfl ?_
    refine pw_sbld (k := a1) hkb (aJ1_indexOfChar_4cfef 9 rfl) (fun _ => ?_)
    refine pw_iload (aJ1_indexOfChar_4cfef 10 rfl) rfl ?_
    refine pw_icne (tgt := 25) (aJ1_indexOfChar_4cfef 11 rfl) (by decide) (fun b1 => ?_) (fun b1 => ?_)
    · skip
      refine pw_iload (aJ1_indexOfChar_4cfef 12 rfl) rfl ?_
      exact pw_iret (aJ1_indexOfChar_4cfef 13 rfl) hok
    · skip
      refine pw_iinc (v := (l5i) + (1 : Int32)) (L2 := [(5, .int ((l5i) + (1 : Int32))), (0, .ref (sk.2.1 (a1).val)), (1, .int (a2)), (2, .int (a3)), (3, .int (a4)), (4, .int (l4i))]) (aJ1_indexOfChar_4cfef 14 rfl) rfl rfl rfl ?_
      refine pw_goto (tgt := 7) (aJ1_indexOfChar_4cfef 15 rfl) (by decide) ?_
      exact pw_Li (L2 := [(0, .ref (sk.2.1 (a1).val)), (1, .int (a2)), (2, .int (a3)), (3, .int (a4)), (4, .int (l4i)), (5, .int ((l5i) + (1 : Int32)))]) [5, 0, 1, 2, 3, 4] (hK7 (l4i) ((l5i) + (1 : Int32)) n sl SH FI FL FR hok) ⟨rfl, rfl, rfl, rfl, rfl, rfl, trivial⟩
  · skip
    refine pw_iconst (v := (-1 : Int32)) (aJ1_indexOfChar_4cfef 16 rfl) rfl ?_
    exact pw_iret (aJ1_indexOfChar_4cfef 17 rfl) hok
def GJ1_indexOfChar_4cfef_7  (a1 : Fin 11) (a2 : Int32) (a3 : Int32) (a4 : Int32) : Nat → Int32 → Int32 → Nat → Nat → (Nat → Nat × Nat) → (Nat → Nat → Int32) → (Nat → Nat → Int64) → (Nat → Nat → Option Nat) → Int32 → hS → Prop
  | 0, _, _, _, _, _, _, _, _ => fun _ _ => False
  | g + 1, l4i, l5i, n, sl, SH, FI, FL, FR => BJ1_indexOfChar_4cfef_7  (GJ1_indexOfChar_4cfef_7  a1 a2 a3 a4 g) a1 a2 a3 a4 l4i l5i n sl SH FI FL FR
def RJ1_indexOfChar_4cfef_7  (a1 : Fin 11) (a2 : Int32) (a3 : Int32) (a4 : Int32) (l4i : Int32) (l5i : Int32) (n sl : Nat) (SH : Nat → Nat × Nat) (FI : Nat → Nat → Int32) (FL : Nat → Nat → Int64) (FR : Nat → Nat → Option Nat) : Int32 → hS → Prop := fun v s => ∃ g, GJ1_indexOfChar_4cfef_7  a1 a2 a3 a4 g l4i l5i n sl SH FI FL FR v s
theorem gJ1_indexOfChar_4cfef_7 {sk : xK} {base d : Nat}  (hkb : x_kb sk base) (a1 : Fin 11) (a2 : Int32) (a3 : Int32) (a4 : Int32) (N : Nat) :  ∀ (l4i : Int32) (l5i : Int32)  (n sl : Nat) (SH : Nat → Nat × Nat) (FI : Nat → Nat → Int32) (FL : Nat → Nat → Int64) (FR : Nat → Nat → Option Nat), pk n SH FR → pw pj_I sk base N d none 281 7 [(0, .ref (sk.2.1 (a1).val)), (1, .int (a2)), (2, .int (a3)), (3, .int (a4)), (4, .int (l4i)), (5, .int (l5i))] [] (n, sl, SH, FI, FL, FR) (GJ1_indexOfChar_4cfef_7  a1 a2 a3 a4 (N + 1) l4i l5i n sl SH FI FL FR) := by
  induction N with
  | zero => intros; exact pw_0
  | succ N ih => intro   l4i l5i  n sl SH FI FL FR hok; exact bJ1_indexOfChar_4cfef_7 hkb a1 a2 a3 a4 l4i l5i  n sl SH FI FL FR hok  (ih  )
theorem rJ1_indexOfChar_4cfef_7 {sk : xK} {base N d : Nat}  (hkb : x_kb sk base) (a1 : Fin 11) (a2 : Int32) (a3 : Int32) (a4 : Int32) (l4i : Int32) (l5i : Int32)  (n sl : Nat) (SH : Nat → Nat × Nat) (FI : Nat → Nat → Int32) (FL : Nat → Nat → Int64) (FR : Nat → Nat → Option Nat) (hok : pk n SH FR)   : pw pj_I sk base N d none 281 7 [(0, .ref (sk.2.1 (a1).val)), (1, .int (a2)), (2, .int (a3)), (3, .int (a4)), (4, .int (l4i)), (5, .int (l5i))] [] (n, sl, SH, FI, FL, FR) (RJ1_indexOfChar_4cfef_7  a1 a2 a3 a4 l4i l5i n sl SH FI FL FR) := pw_cons (gJ1_indexOfChar_4cfef_7 hkb a1 a2 a3 a4 N   l4i l5i  n sl SH FI FL FR hok) (fun _ _ h => ⟨_, h⟩)
def RJ1_indexOfChar_4cfef (a1 : Fin 11) (a2 : Int32) (a3 : Int32) (a4 : Int32) (n sl : Nat) (SH : Nat → Nat × Nat) (FI : Nat → Nat → Int32) (FL : Nat → Nat → Int64) (FR : Nat → Nat → Option Nat) : Int32 → hS → Prop := (RJ1_indexOfChar_4cfef_7  a1 a2 a3 a4 ((a2).toInt8.toInt32) (a3) n sl SH FI FL FR)
set_option maxHeartbeats 4000000 in
set_option maxRecDepth 100000 in
theorem rJ1_indexOfChar_4cfef {sk : xK} {base N d : Nat} (hkb : x_kb sk base) (a1 : Fin 11) (a2 : Int32) (a3 : Int32) (a4 : Int32) (n sl : Nat) (SH : Nat → Nat × Nat) (FI : Nat → Nat → Int32) (FL : Nat → Nat → Int64) (FR : Nat → Nat → Option Nat) (hok : pk n SH FR)  : pw pj_I sk base N d none 281 0 [(0, .ref (sk.2.1 (a1).val)), (1, .int (a2)), (2, .int (a3)), (3, .int (a4))] [] (n, sl, SH, FI, FL, FR) (RJ1_indexOfChar_4cfef a1 a2 a3 a4 n sl SH FI FL FR) := by
  unfold RJ1_indexOfChar_4cfef
  refine pw_iloadn (aJ1_indexOfChar_4cfef 0 rfl) rfl ?_
  refine pw_i2b aJ1_indexOfChar_4cfef_1 ?_
  refine pw_istore (L2 := [(4, .int ((a2).toInt8.toInt32)), (0, .ref (sk.2.1 (a1).val)), (1, .int (a2)), (2, .int (a3)), (3, .int (a4))]) (aJ1_indexOfChar_4cfef 1 rfl) rfl ?_
  refine pw_iloadn (aJ1_indexOfChar_4cfef 2 rfl) rfl ?_
  refine pw_istore (L2 := [(5, .int (a3)), (4, .int ((a2).toInt8.toInt32)), (0, .ref (sk.2.1 (a1).val)), (1, .int (a2)), (2, .int (a3)), (3, .int (a4))]) (aJ1_indexOfChar_4cfef 3 rfl) rfl ?_
  exact pw_Li (L2 := [(0, .ref (sk.2.1 (a1).val)), (1, .int (a2)), (2, .int (a3)), (3, .int (a4)), (4, .int ((a2).toInt8.toInt32)), (5, .int (a3))]) [5, 4, 0, 1, 2, 3] (rJ1_indexOfChar_4cfef_7 hkb a1 a2 a3 a4 ((a2).toInt8.toInt32) (a3) n sl SH FI FL FR hok  ) ⟨rfl, rfl, rfl, rfl, rfl, rfl, trivial⟩
def RJ1_indexOf_4cfef (a1 : Fin 11) (a2 : Int32) (a3 : Int32) (a4 : Int32) (n sl : Nat) (SH : Nat → Nat × Nat) (FI : Nat → Nat → Int32) (FL : Nat → Nat → Int64) (FR : Nat → Nat → Option Nat) : Int32 → hS → Prop := (P_if ((fJ1_canEncode_9a6ad (a2) SH FI FL FR).toInt = 0) (P_ret ((-1 : Int32)) (n, sl, SH, FI, FL, FR)) (P_if ((fJ9_max_7cf53 (a3) ((0 : Int32)) SH FI FL FR).toInt < (fJ9_min_7cf53 (a4) (Int32.ofNat (x_strN.getD (a1).val 0)) SH FI FL FR).toInt) (P_bi (RJ1_indexOfChar_4cfef (a1) (a2) (fJ9_max_7cf53 (a3) ((0 : Int32)) SH FI FL FR) (fJ9_min_7cf53 (a4) (Int32.ofNat (x_strN.getD (a1).val 0)) SH FI FL FR) n sl SH FI FL FR) (fun v5 n5 sl5 SH5 FI5 FL5 FR5 => (P_ret (v5) (n5, sl5, SH5, FI5, FL5, FR5)))) (P_ret ((-1 : Int32)) (n, sl, SH, FI, FL, FR))))
set_option maxHeartbeats 4000000 in
set_option maxRecDepth 100000 in
theorem rJ1_indexOf_4cfef {sk : xK} {base N d : Nat} (hkb : x_kb sk base) (a1 : Fin 11) (a2 : Int32) (a3 : Int32) (a4 : Int32) (n sl : Nat) (SH : Nat → Nat × Nat) (FI : Nat → Nat → Int32) (FL : Nat → Nat → Int64) (FR : Nat → Nat → Option Nat) (hok : pk n SH FR)  : pw pj_I sk base N d none 282 0 [(0, .ref (sk.2.1 (a1).val)), (1, .int (a2)), (2, .int (a3)), (3, .int (a4))] [] (n, sl, SH, FI, FL, FR) (RJ1_indexOf_4cfef a1 a2 a3 a4 n sl SH FI FL FR) := by
  unfold RJ1_indexOf_4cfef
  refine pw_iloadn (aJ1_indexOf_4cfef 0 rfl) rfl ?_
  refine pw_cf (pw_callS (As := [.int (a2)]) (rest := []) (aJ1_indexOf_4cfef 1 rfl) um_RJ1_88 ujJ1_canEncode_9a6ad wc_RJ1_88.2.2.2.2 (by decide) rfl rfl (fun d => rJ1_canEncode_9a6ad hkb (a2) n sl SH FI FL FR hok) (fun v0 n0 sl0 SH0 FI0 FL0 FR0 _ hC => ?_))
  obtain ⟨rfl, hC⟩ := hC; cases hC
  show pw _ _ _ _ _ _ _ 4 _ [.int (fJ1_canEncode_9a6ad (a2) SH FI FL FR)] _ _
  refine pw_ifne (tgt := 9) (aJ1_indexOf_4cfef 2 rfl) (by decide) (fun b1 => ?_) (fun b1 => ?_)
  · skip
    refine pw_iconst (v := (-1 : Int32)) (aJ1_indexOf_4cfef 3 rfl) rfl ?_
    exact pw_iret (aJ1_indexOf_4cfef 4 rfl) hok
  · skip
    refine pw_iloadn (aJ1_indexOf_4cfef 5 rfl) rfl ?_
    refine pw_iconst (v := (0 : Int32)) (aJ1_indexOf_4cfef 6 rfl) rfl ?_
    refine pw_cf (pw_callS (As := [.int (a3), .int ((0 : Int32))]) (rest := []) (aJ1_indexOf_4cfef 7 rfl) um_RJ1_92 ujJ9_max_7cf53 wc_RJ1_92.2.2.2.2 (by decide) rfl rfl (fun d => rJ9_max_7cf53 hkb (a3) ((0 : Int32)) n sl SH FI FL FR hok) (fun v2 n2 sl2 SH2 FI2 FL2 FR2 _ hC => ?_))
    obtain ⟨rfl, hC⟩ := hC; cases hC
    show pw _ _ _ _ _ _ _ 14 _ [.int (fJ9_max_7cf53 (a3) ((0 : Int32)) SH FI FL FR)] _ _
    refine pw_istoren (L2 := [(2, .int (fJ9_max_7cf53 (a3) ((0 : Int32)) SH FI FL FR)), (0, .ref (sk.2.1 (a1).val)), (1, .int (a2)), (3, .int (a4))]) (aJ1_indexOf_4cfef 8 rfl) rfl ?_
    refine pw_iloadn (aJ1_indexOf_4cfef 9 rfl) rfl ?_
    refine pw_aloadn (aJ1_indexOf_4cfef 10 rfl) rfl ?_
    refine pw_strl (k := a1) hkb (aJ1_indexOf_4cfef 11 rfl) ?_
    refine pw_cf (pw_callS (As := [.int (a4), .int (Int32.ofNat (x_strN.getD (a1).val 0))]) (rest := []) (aJ1_indexOf_4cfef 12 rfl) um_RJ1_38 ujJ9_min_7cf53 wc_RJ1_38.2.2.2.2 (by decide) rfl rfl (fun d => rJ9_min_7cf53 hkb (a4) (Int32.ofNat (x_strN.getD (a1).val 0)) n sl SH FI FL FR hok) (fun v3 n3 sl3 SH3 FI3 FL3 FR3 _ hC => ?_))
    obtain ⟨rfl, hC⟩ := hC; cases hC
    show pw _ _ _ _ _ _ _ 21 _ [.int (fJ9_min_7cf53 (a4) (Int32.ofNat (x_strN.getD (a1).val 0)) SH FI FL FR)] _ _
    refine pw_istoren (L2 := [(3, .int (fJ9_min_7cf53 (a4) (Int32.ofNat (x_strN.getD (a1).val 0)) SH FI FL FR)), (2, .int (fJ9_max_7cf53 (a3) ((0 : Int32)) SH FI FL FR)), (0, .ref (sk.2.1 (a1).val)), (1, .int (a2))]) (aJ1_indexOf_4cfef 13 rfl) rfl ?_
    refine pw_iloadn (aJ1_indexOf_4cfef 14 rfl) rfl ?_
    refine pw_iloadn (aJ1_indexOf_4cfef 15 rfl) rfl ?_
    refine pw_iclt (tgt := 29) (aJ1_indexOf_4cfef 16 rfl) (by decide) (fun b4 => ?_) (fun b4 => ?_)
    · skip
      refine pw_aloadn (aJ1_indexOf_4cfef 19 rfl) rfl ?_
      refine pw_iloadn (aJ1_indexOf_4cfef 20 rfl) rfl ?_
      refine pw_iloadn (aJ1_indexOf_4cfef 21 rfl) rfl ?_
      refine pw_iloadn (aJ1_indexOf_4cfef 22 rfl) rfl ?_
      refine pw_callS (As := [.ref (sk.2.1 (a1).val), .int (a2), .int (fJ9_max_7cf53 (a3) ((0 : Int32)) SH FI FL FR), .int (fJ9_min_7cf53 (a4) (Int32.ofNat (x_strN.getD (a1).val 0)) SH FI FL FR)]) (rest := []) (aJ1_indexOf_4cfef 23 rfl) um_RJ1_95 ujJ1_indexOfChar_4cfef wc_RJ1_95.2.2.2.2 (by decide) rfl rfl (fun d => rJ1_indexOfChar_4cfef hkb (a1) (a2) (fJ9_max_7cf53 (a3) ((0 : Int32)) SH FI FL FR) (fJ9_min_7cf53 (a4) (Int32.ofNat (x_strN.getD (a1).val 0)) SH FI FL FR) n sl SH FI FL FR hok) (fun v5 n5 sl5 SH5 FI5 FL5 FR5 hok5 _ => ?_)
      show pw _ _ _ _ _ _ _ 36 _ [.int (v5)] _ _
      exact pw_iret (aJ1_indexOf_4cfef 24 rfl) hok5
    · skip
      refine pw_iconst (v := (-1 : Int32)) (aJ1_indexOf_4cfef 17 rfl) rfl ?_
      exact pw_iret (aJ1_indexOf_4cfef 18 rfl) hok
def RJ0_indexOf_7cf53 (c : Fin 11) (a1 : Int32) (a2 : Int32) (n sl : Nat) (SH : Nat → Nat × Nat) (FI : Nat → Nat → Int32) (FL : Nat → Nat → Int64) (FR : Nat → Nat → Option Nat) : Int32 → hS → Prop := (P_if (((1 : Int32)).toInt = 0) (fun _ _ => False) (P_bi (RJ1_indexOf_4cfef (c) (a1) (a2) (fJ0_length_8abf5 (c) SH FI FL FR) n sl SH FI FL FR) (fun v3 n3 sl3 SH3 FI3 FL3 FR3 => (P_ret (v3) (n3, sl3, SH3, FI3, FL3, FR3)))))
set_option maxHeartbeats 4000000 in
set_option maxRecDepth 100000 in
theorem rJ0_indexOf_7cf53 {sk : xK} {base N d : Nat} (hkb : x_kb sk base) (c : Fin 11) (a1 : Int32) (a2 : Int32) (n sl : Nat) (SH : Nat → Nat × Nat) (FI : Nat → Nat → Int32) (FL : Nat → Nat → Int64) (FR : Nat → Nat → Option Nat) (hok : pk n SH FR)  : pw pj_I sk base N d none 273 0 [(0, .ref (sk.1 (c).val)), (1, .int (a1)), (2, .int (a2))] [] (n, sl, SH, FI, FL, FR) (RJ0_indexOf_7cf53 c a1 a2 n sl SH FI FL FR) := by
  unfold RJ0_indexOf_7cf53
  refine pw_aloadn (aJ0_indexOf_7cf53 0 rfl) rfl ?_
  refine pw_cf (pw_callT (k := c) (Bs := []) (rest := []) hkb (aJ0_indexOf_7cf53 1 rfl) um_RJ0_492 ujJ0_isLatin1_aae02 wc_RJ0_492.2.2.2.2 (by decide) rfl rfl (fun d => rJ0_isLatin1_aae02 hkb (c) n sl SH FI FL FR hok) (fun v0 n0 sl0 SH0 FI0 FL0 FR0 _ hC => ?_))
  obtain ⟨rfl, hC⟩ := hC; cases hC
  show pw _ _ _ _ _ _ _ 4 _ [.int ((1 : Int32))] _ _
  refine pw_ifeq (tgt := 23) (aJ0_indexOf_7cf53 2 rfl) (by decide) (fun b1 => ?_) (fun b1 => ?_)
  · exact absurd b1 (by decide)
  · skip
    refine pw_aloadn (aJ0_indexOf_7cf53 3 rfl) rfl ?_
    refine pw_sval (k := c) hkb (aJ0_indexOf_7cf53 4 rfl) us_RJ0_9 ?_
    refine pw_iloadn (aJ0_indexOf_7cf53 5 rfl) rfl ?_
    refine pw_iloadn (aJ0_indexOf_7cf53 6 rfl) rfl ?_
    refine pw_aloadn (aJ0_indexOf_7cf53 7 rfl) rfl ?_
    refine pw_cf (pw_callT (k := c) (Bs := []) (rest := [.int (a2), .int (a1), .ref (sk.2.1 (c).val)]) hkb (aJ0_indexOf_7cf53 8 rfl) um_RJ0_505 ujJ0_length_8abf5 wc_RJ0_505.2.2.2.2 (by decide) rfl rfl (fun d => rJ0_length_8abf5 hkb (c) n sl SH FI FL FR hok) (fun v2 n2 sl2 SH2 FI2 FL2 FR2 _ hC => ?_))
    obtain ⟨rfl, hC⟩ := hC; cases hC
    show pw _ _ _ _ _ _ _ 17 _ [.int (fJ0_length_8abf5 (c) SH FI FL FR), .int (a2), .int (a1), .ref (sk.2.1 (c).val)] _ _
    refine pw_callS (As := [.ref (sk.2.1 (c).val), .int (a1), .int (a2), .int (fJ0_length_8abf5 (c) SH FI FL FR)]) (rest := []) (aJ0_indexOf_7cf53 9 rfl) um_RJ0_637 ujJ1_indexOf_4cfef wc_RJ0_637.2.2.2.2 (by decide) rfl rfl (fun d => rJ1_indexOf_4cfef hkb (c) (a1) (a2) (fJ0_length_8abf5 (c) SH FI FL FR) n sl SH FI FL FR hok) (fun v3 n3 sl3 SH3 FI3 FL3 FR3 hok3 _ => ?_)
    show pw _ _ _ _ _ _ _ 20 _ [.int (v3)] _ _
    refine pw_goto (tgt := 36) (aJ0_indexOf_7cf53 10 rfl) (by decide) ?_
    exact pw_iret (aJ0_indexOf_7cf53 18 rfl) hok3
def RJ0_indexOf_0f7a4 (c : Fin 11) (a1 : Int32) (n sl : Nat) (SH : Nat → Nat × Nat) (FI : Nat → Nat → Int32) (FL : Nat → Nat → Int64) (FR : Nat → Nat → Option Nat) : Int32 → hS → Prop := (P_bi (RJ0_indexOf_7cf53 (c) (a1) ((0 : Int32)) n sl SH FI FL FR) (fun v0 n0 sl0 SH0 FI0 FL0 FR0 => (P_ret (v0) (n0, sl0, SH0, FI0, FL0, FR0))))
set_option maxHeartbeats 4000000 in
set_option maxRecDepth 100000 in
theorem rJ0_indexOf_0f7a4 {sk : xK} {base N d : Nat} (hkb : x_kb sk base) (c : Fin 11) (a1 : Int32) (n sl : Nat) (SH : Nat → Nat × Nat) (FI : Nat → Nat → Int32) (FL : Nat → Nat → Int64) (FR : Nat → Nat → Option Nat) (hok : pk n SH FR)  : pw pj_I sk base N d none 272 0 [(0, .ref (sk.1 (c).val)), (1, .int (a1))] [] (n, sl, SH, FI, FL, FR) (RJ0_indexOf_0f7a4 c a1 n sl SH FI FL FR) := by
  unfold RJ0_indexOf_0f7a4
  refine pw_aloadn (aJ0_indexOf_0f7a4 0 rfl) rfl ?_
  refine pw_iloadn (aJ0_indexOf_0f7a4 1 rfl) rfl ?_
  refine pw_iconst (v := (0 : Int32)) (aJ0_indexOf_0f7a4 2 rfl) rfl ?_
  refine pw_callT (k := c) (Bs := [.int (a1), .int ((0 : Int32))]) (rest := []) hkb (aJ0_indexOf_0f7a4 3 rfl) um_RJ0_633 ujJ0_indexOf_7cf53 wc_RJ0_633.2.2.2.2 (by decide) rfl rfl (fun d => rJ0_indexOf_7cf53 hkb (c) (a1) ((0 : Int32)) n sl SH FI FL FR hok) (fun v0 n0 sl0 SH0 FI0 FL0 FR0 hok0 _ => ?_)
  show pw _ _ _ _ _ _ _ 6 _ [.int (v0)] _ _
  exact pw_iret (aJ0_indexOf_0f7a4 4 rfl) hok0
def fX7_isSmall (a1 : Int32) (SH : Nat → Nat × Nat) (FI : Nat → Nat → Int32) (FL : Nat → Nat → Int64) (FR : Nat → Nat → Option Nat) : Int32 := (if (a1).toInt < ((97 : Int32)).toInt then ((0 : Int32)) else (if ((122 : Int32)).toInt < (a1).toInt then ((0 : Int32)) else ((1 : Int32))))
set_option maxHeartbeats 4000000 in
set_option maxRecDepth 100000 in
theorem rX7_isSmall {sk : xK} {base N d : Nat} (hkb : x_kb sk base) (a1 : Int32) (n sl : Nat) (SH : Nat → Nat × Nat) (FI : Nat → Nat → Int32) (FL : Nat → Nat → Int64) (FR : Nat → Nat → Option Nat) (hok : pk n SH FR)  : pw pj_I sk base N d none 68 0 [(0, .int (a1))] [] (n, sl, SH, FI, FL, FR) (P_ret (fX7_isSmall a1 SH FI FL FR) (n, sl, SH, FI, FL, FR)) := by
  unfold fX7_isSmall
  refine pw_iloadn (aX7_isSmall 0 rfl) rfl ?_
  refine pw_bipush (v := (97 : Int32)) (aX7_isSmall 1 rfl) rfl ?_
  refine pw_ite (pw_iclt (tgt := 16) (aX7_isSmall 2 rfl) (by decide) (fun b0 => ?_) (fun b0 => ?_))
  · skip
    refine pw_iconst (v := (0 : Int32)) (aX7_isSmall 8 rfl) rfl ?_
    exact pw_iret (aX7_isSmall 9 rfl) hok
  · skip
    refine pw_iloadn (aX7_isSmall 3 rfl) rfl ?_
    refine pw_bipush (v := (122 : Int32)) (aX7_isSmall 4 rfl) rfl ?_
    refine pw_ite (pw_icgt (tgt := 16) (aX7_isSmall 5 rfl) (by decide) (fun b1 => ?_) (fun b1 => ?_))
    · skip
      refine pw_iconst (v := (0 : Int32)) (aX7_isSmall 8 rfl) rfl ?_
      exact pw_iret (aX7_isSmall 9 rfl) hok
    · skip
      refine pw_iconst (v := (1 : Int32)) (aX7_isSmall 6 rfl) rfl ?_
      refine pw_goto (tgt := 17) (aX7_isSmall 7 rfl) (by decide) ?_
      exact pw_iret (aX7_isSmall 9 rfl) hok
def fX7_isDigit (a1 : Int32) (SH : Nat → Nat × Nat) (FI : Nat → Nat → Int32) (FL : Nat → Nat → Int64) (FR : Nat → Nat → Option Nat) : Int32 := (if (a1).toInt < ((48 : Int32)).toInt then ((0 : Int32)) else (if ((57 : Int32)).toInt < (a1).toInt then ((0 : Int32)) else ((1 : Int32))))
set_option maxHeartbeats 4000000 in
set_option maxRecDepth 100000 in
theorem rX7_isDigit {sk : xK} {base N d : Nat} (hkb : x_kb sk base) (a1 : Int32) (n sl : Nat) (SH : Nat → Nat × Nat) (FI : Nat → Nat → Int32) (FL : Nat → Nat → Int64) (FR : Nat → Nat → Option Nat) (hok : pk n SH FR)  : pw pj_I sk base N d none 69 0 [(0, .int (a1))] [] (n, sl, SH, FI, FL, FR) (P_ret (fX7_isDigit a1 SH FI FL FR) (n, sl, SH, FI, FL, FR)) := by
  unfold fX7_isDigit
  refine pw_iloadn (aX7_isDigit 0 rfl) rfl ?_
  refine pw_bipush (v := (48 : Int32)) (aX7_isDigit 1 rfl) rfl ?_
  refine pw_ite (pw_iclt (tgt := 16) (aX7_isDigit 2 rfl) (by decide) (fun b0 => ?_) (fun b0 => ?_))
  · skip
    refine pw_iconst (v := (0 : Int32)) (aX7_isDigit 8 rfl) rfl ?_
    exact pw_iret (aX7_isDigit 9 rfl) hok
  · skip
    refine pw_iloadn (aX7_isDigit 3 rfl) rfl ?_
    refine pw_bipush (v := (57 : Int32)) (aX7_isDigit 4 rfl) rfl ?_
    refine pw_ite (pw_icgt (tgt := 16) (aX7_isDigit 5 rfl) (by decide) (fun b1 => ?_) (fun b1 => ?_))
    · skip
      refine pw_iconst (v := (0 : Int32)) (aX7_isDigit 8 rfl) rfl ?_
      exact pw_iret (aX7_isDigit 9 rfl) hok
    · skip
      refine pw_iconst (v := (1 : Int32)) (aX7_isDigit 6 rfl) rfl ?_
      refine pw_goto (tgt := 17) (aX7_isDigit 7 rfl) (by decide) ?_
      exact pw_iret (aX7_isDigit 9 rfl) hok
def fX7_signOfTwo (a1 : Int32) (a2 : Int32) (SH : Nat → Nat × Nat) (FI : Nat → Nat → Int32) (FL : Nat → Nat → Int64) (FR : Nat → Nat → Option Nat) : Int32 := (if (a2).toInt = ((61 : Int32)).toInt then (if (a1).toInt = ((61 : Int32)).toInt then ((18 : Int32)) else (if (a1).toInt = ((33 : Int32)).toInt then ((19 : Int32)) else (if (a1).toInt = ((60 : Int32)).toInt then ((20 : Int32)) else (if (a1).toInt = ((62 : Int32)).toInt then ((21 : Int32)) else ((3 : Int32)))))) else (if (a1).toInt = (a2).toInt then (if (a1).toInt = ((46 : Int32)).toInt then ((17 : Int32)) else (if (a1).toInt = ((60 : Int32)).toInt then ((22 : Int32)) else (if (a1).toInt = ((62 : Int32)).toInt then ((23 : Int32)) else ((3 : Int32))))) else ((3 : Int32))))
set_option maxHeartbeats 4000000 in
set_option maxRecDepth 100000 in
theorem rX7_signOfTwo {sk : xK} {base N d : Nat} (hkb : x_kb sk base) (a1 : Int32) (a2 : Int32) (n sl : Nat) (SH : Nat → Nat × Nat) (FI : Nat → Nat → Int32) (FL : Nat → Nat → Int64) (FR : Nat → Nat → Option Nat) (hok : pk n SH FR)  : pw pj_I sk base N d none 76 0 [(0, .int (a1)), (1, .int (a2))] [] (n, sl, SH, FI, FL, FR) (P_ret (fX7_signOfTwo a1 a2 SH FI FL FR) (n, sl, SH, FI, FL, FR)) := by
  unfold fX7_signOfTwo
  refine pw_iloadn (aX7_signOfTwo 0 rfl) rfl ?_
  refine pw_bipush (v := (61 : Int32)) (aX7_signOfTwo 1 rfl) rfl ?_
  refine pw_ite (pw_icne (tgt := 52) (aX7_signOfTwo 2 rfl) (by decide) (fun b0 => ?_) (fun b0 => ?_))
  · skip
    refine pw_iloadn (aX7_signOfTwo 3 rfl) rfl ?_
    refine pw_bipush (v := (61 : Int32)) (aX7_signOfTwo 4 rfl) rfl ?_
    refine pw_ite (pw_icne (tgt := 17) (aX7_signOfTwo 5 rfl) (by decide) (fun b1 => ?_) (fun b1 => ?_))
    · skip
      refine pw_bipush (v := (18 : Int32)) (aX7_signOfTwo 6 rfl) rfl ?_
      refine pw_goto (tgt := 51) (aX7_signOfTwo 7 rfl) (by decide) ?_
      exact pw_iret (aX7_signOfTwo 24 rfl) hok
    · skip
      refine pw_iloadn (aX7_signOfTwo 8 rfl) rfl ?_
      refine pw_bipush (v := (33 : Int32)) (aX7_signOfTwo 9 rfl) rfl ?_
      refine pw_ite (pw_icne (tgt := 28) (aX7_signOfTwo 10 rfl) (by decide) (fun b2 => ?_) (fun b2 => ?_))
      · skip
        refine pw_bipush (v := (19 : Int32)) (aX7_signOfTwo 11 rfl) rfl ?_
        refine pw_goto (tgt := 51) (aX7_signOfTwo 12 rfl) (by decide) ?_
        exact pw_iret (aX7_signOfTwo 24 rfl) hok
      · skip
        refine pw_iloadn (aX7_signOfTwo 13 rfl) rfl ?_
        refine pw_bipush (v := (60 : Int32)) (aX7_signOfTwo 14 rfl) rfl ?_
        refine pw_ite (pw_icne (tgt := 39) (aX7_signOfTwo 15 rfl) (by decide) (fun b3 => ?_) (fun b3 => ?_))
        · skip
          refine pw_bipush (v := (20 : Int32)) (aX7_signOfTwo 16 rfl) rfl ?_
          refine pw_goto (tgt := 51) (aX7_signOfTwo 17 rfl) (by decide) ?_
          exact pw_iret (aX7_signOfTwo 24 rfl) hok
        · skip
          refine pw_iloadn (aX7_signOfTwo 18 rfl) rfl ?_
          refine pw_bipush (v := (62 : Int32)) (aX7_signOfTwo 19 rfl) rfl ?_
          refine pw_ite (pw_icne (tgt := 50) (aX7_signOfTwo 20 rfl) (by decide) (fun b4 => ?_) (fun b4 => ?_))
          · skip
            refine pw_bipush (v := (21 : Int32)) (aX7_signOfTwo 21 rfl) rfl ?_
            refine pw_goto (tgt := 51) (aX7_signOfTwo 22 rfl) (by decide) ?_
            exact pw_iret (aX7_signOfTwo 24 rfl) hok
          · skip
            refine pw_iconst (v := (3 : Int32)) (aX7_signOfTwo 23 rfl) rfl ?_
            exact pw_iret (aX7_signOfTwo 24 rfl) hok
  · skip
    refine pw_iloadn (aX7_signOfTwo 25 rfl) rfl ?_
    refine pw_iloadn (aX7_signOfTwo 26 rfl) rfl ?_
    refine pw_ite (pw_iceq (tgt := 59) (aX7_signOfTwo 27 rfl) (by decide) (fun b5 => ?_) (fun b5 => ?_))
    · skip
      refine pw_iloadn (aX7_signOfTwo 30 rfl) rfl ?_
      refine pw_bipush (v := (46 : Int32)) (aX7_signOfTwo 31 rfl) rfl ?_
      refine pw_ite (pw_icne (tgt := 70) (aX7_signOfTwo 32 rfl) (by decide) (fun b6 => ?_) (fun b6 => ?_))
      · skip
        refine pw_bipush (v := (17 : Int32)) (aX7_signOfTwo 33 rfl) rfl ?_
        refine pw_goto (tgt := 93) (aX7_signOfTwo 34 rfl) (by decide) ?_
        exact pw_iret (aX7_signOfTwo 46 rfl) hok
      · skip
        refine pw_iloadn (aX7_signOfTwo 35 rfl) rfl ?_
        refine pw_bipush (v := (60 : Int32)) (aX7_signOfTwo 36 rfl) rfl ?_
        refine pw_ite (pw_icne (tgt := 81) (aX7_signOfTwo 37 rfl) (by decide) (fun b7 => ?_) (fun b7 => ?_))
        · skip
          refine pw_bipush (v := (22 : Int32)) (aX7_signOfTwo 38 rfl) rfl ?_
          refine pw_goto (tgt := 93) (aX7_signOfTwo 39 rfl) (by decide) ?_
          exact pw_iret (aX7_signOfTwo 46 rfl) hok
        · skip
          refine pw_iloadn (aX7_signOfTwo 40 rfl) rfl ?_
          refine pw_bipush (v := (62 : Int32)) (aX7_signOfTwo 41 rfl) rfl ?_
          refine pw_ite (pw_icne (tgt := 92) (aX7_signOfTwo 42 rfl) (by decide) (fun b8 => ?_) (fun b8 => ?_))
          · skip
            refine pw_bipush (v := (23 : Int32)) (aX7_signOfTwo 43 rfl) rfl ?_
            refine pw_goto (tgt := 93) (aX7_signOfTwo 44 rfl) (by decide) ?_
            exact pw_iret (aX7_signOfTwo 46 rfl) hok
          · skip
            refine pw_iconst (v := (3 : Int32)) (aX7_signOfTwo 45 rfl) rfl ?_
            exact pw_iret (aX7_signOfTwo 46 rfl) hok
    · skip
      refine pw_iconst (v := (3 : Int32)) (aX7_signOfTwo 28 rfl) rfl ?_
      exact pw_iret (aX7_signOfTwo 29 rfl) hok
def RX7_letter (a1 : Int32) (n sl : Nat) (SH : Nat → Nat × Nat) (FI : Nat → Nat → Int32) (FL : Nat → Nat → Int64) (FR : Nat → Nat → Option Nat) : Int32 → hS → Prop := (P_if ((a1).toInt < 0) (P_ret ((-1 : Int32)) (n, sl, SH, FI, FL, FR)) (P_if ((a1).toInt < (FI 111 6).toInt) (P_sm (FR 111 5) (fun c3 => (P_if ((a1).toInt < (Int32.ofNat (SH c3).2).toInt) (P_sm (FR 111 5) (fun c5 => P_and (p_in (a1) (SH c5).2) (P_ret (FI c5 (a1).toInt.toNat) (n, sl, SH, FI, FL, FR)))) (P_ret ((-1 : Int32)) (n, sl, SH, FI, FL, FR))))) (P_ret ((-1 : Int32)) (n, sl, SH, FI, FL, FR))))
set_option maxHeartbeats 4000000 in
set_option maxRecDepth 100000 in
theorem rX7_letter {sk : xK} {base N d : Nat} (hkb : x_kb sk base) (a1 : Int32) (n sl : Nat) (SH : Nat → Nat × Nat) (FI : Nat → Nat → Int32) (FL : Nat → Nat → Int64) (FR : Nat → Nat → Option Nat) (hok : pk n SH FR)  : pw pj_I sk base N d none 67 0 [(0, .ref (base + 111)), (1, .int (a1))] [] (n, sl, SH, FI, FL, FR) (RX7_letter a1 n sl SH FI FL FR) := by
  unfold RX7_letter
  refine pw_iloadn (aX7_letter 0 rfl) rfl ?_
  refine pw_iflt (tgt := 21) (aX7_letter 1 rfl) (by decide) (fun b0 => ?_) (fun b0 => ?_)
  · skip
    refine pw_iconst (v := (-1 : Int32)) (aX7_letter 11 rfl) rfl ?_
    refine pw_goto (tgt := 31) (aX7_letter 12 rfl) (by decide) ?_
    exact pw_iret (aX7_letter 17 rfl) hok
  · skip
    refine pw_iloadn (aX7_letter 2 rfl) rfl ?_
    refine pw_aloadn (aX7_letter 3 rfl) rfl ?_
    refine pw_getr (v := .int (FI 111 6)) (aX7_letter 4 rfl) uf_RX7_34 un_RX7_34 rfl ?_
    refine pw_icge (tgt := 21) (aX7_letter 5 rfl) (by decide) (fun b1 => ?_) (fun b1 => ?_)
    · skip
      refine pw_iloadn (aX7_letter 6 rfl) rfl ?_
      refine pw_aloadn (aX7_letter 7 rfl) rfl ?_
      refine pw_getr (v := va_rf (h_rf base (FR 111 5))) (aX7_letter 8 rfl) uf_RX7_25 un_RX7_25 rfl ?_
      refine pw_alen hkb (o := FR 111 5) (aX7_letter 9 rfl) (fun c3 hc3 _ => ?_)
      refine pw_iclt (tgt := 25) (aX7_letter 10 rfl) (by decide) (fun b3 => ?_) (fun b3 => ?_)
      · skip
        refine pw_aloadn (aX7_letter 13 rfl) rfl ?_
        refine pw_getr (v := va_rf (h_rf base (FR 111 5))) (aX7_letter 14 rfl) uf_RX7_25 un_RX7_25 rfl ?_
        refine pw_iloadn (aX7_letter 15 rfl) rfl ?_
        refine pw_iald (ix := (a1).toInt.toNat) (o := FR 111 5) (aX7_letter 16 rfl) rfl (fun c5 hc5 _ gc5 => ?_)
        exact pw_iret (aX7_letter 17 rfl) hok
      · skip
        refine pw_iconst (v := (-1 : Int32)) (aX7_letter 11 rfl) rfl ?_
        refine pw_goto (tgt := 31) (aX7_letter 12 rfl) (by decide) ?_
        exact pw_iret (aX7_letter 17 rfl) hok
    · skip
      refine pw_iconst (v := (-1 : Int32)) (aX7_letter 11 rfl) rfl ?_
      refine pw_goto (tgt := 31) (aX7_letter 12 rfl) (by decide) ?_
      exact pw_iret (aX7_letter 17 rfl) hok
def BX7_isWord_20 (K20 : Int32 → Nat → Nat → (Nat → Nat × Nat) → (Nat → Nat → Int32) → (Nat → Nat → Int64) → (Nat → Nat → Option Nat) → Int32 → hS → Prop) (a1 : Fin 11) (l2i : Int32) (n sl : Nat) (SH : Nat → Nat × Nat) (FI : Nat → Nat → Int32) (FL : Nat → Nat → Int64) (FR : Nat → Nat → Option Nat) : Int32 → hS → Prop := (P_if ((l2i).toInt < (fJ0_length_8abf5 (a1) SH FI FL FR).toInt) (P_bi (RX7_letter ((FI 111 7) + (l2i)) n sl SH FI FL FR) (fun v2 n2 sl2 SH2 FI2 FL2 FR2 => (P_bi (RJ0_charAt_5068e (a1) (l2i) n2 sl2 SH2 FI2 FL2 FR2) (fun v3 n3 sl3 SH3 FI3 FL3 FR3 => (P_if ((v2).toInt = (v3).toInt) (K20 ((l2i) + (1 : Int32)) n3 sl3 SH3 FI3 FL3 FR3) (P_ret ((0 : Int32)) (n3, sl3, SH3, FI3, FL3, FR3))))))) (P_ret ((1 : Int32)) (n, sl, SH, FI, FL, FR)))
set_option maxHeartbeats 4000000 in
set_option maxRecDepth 100000 in
theorem bX7_isWord_20 {sk : xK} {base N d : Nat} {K20 : Int32 → Nat → Nat → (Nat → Nat × Nat) → (Nat → Nat → Int32) → (Nat → Nat → Int64) → (Nat → Nat → Option Nat) → Int32 → hS → Prop} (hkb : x_kb sk base) (a1 : Fin 11) (l2i : Int32)  (n sl : Nat) (SH : Nat → Nat × Nat) (FI : Nat → Nat → Int32) (FL : Nat → Nat → Int64) (FR : Nat → Nat → Option Nat) (hok : pk n SH FR)  (hK20 : ∀ (l2i : Int32) (n sl : Nat) (SH : Nat → Nat × Nat) (FI : Nat → Nat → Int32) (FL : Nat → Nat → Int64) (FR : Nat → Nat → Option Nat), pk n SH FR → pw pj_I sk base N d none 72 20 [(0, .ref (base + 111)), (1, .ref (sk.1 (a1).val)), (2, .int (l2i))] [] (n, sl, SH, FI, FL, FR) (K20 l2i n sl SH FI FL FR)) : pw pj_I sk base (N + 1) d none 72 20 [(0, .ref (base + 111)), (1, .ref (sk.1 (a1).val)), (2, .int (l2i))] [] (n, sl, SH, FI, FL, FR) (BX7_isWord_20 K20 a1 l2i n sl SH FI FL FR) := by
  unfold BX7_isWord_20
  refine pd_iloadn (aX7_isWord 12 rfl) rfl ?_
  refine pw_aloadn (aX7_isWord 13 rfl) rfl ?_
  refine pw_cf (pw_callT (k := a1) (Bs := []) (rest := [.int (l2i)]) hkb (aX7_isWord 14 rfl) um_RX7_109 ujJ0_length_8abf5 wc_RX7_109.2.2.2.2 (by decide) rfl rfl (fun d => rJ0_length_8abf5 hkb (a1) n sl SH FI FL FR hok) (fun v0 n0 sl0 SH0 FI0 FL0 FR0 _ hC => ?_))
  obtain ⟨rfl, hC⟩ := hC; cases hC
  show pw _ _ _ _ _ _ _ 25 _ [.int (fJ0_length_8abf5 (a1) SH FI FL FR), .int (l2i)] _ _
  refine pw_icge (tgt := 54) (aX7_isWord 15 rfl) (by decide) (fun b1 => ?_) (fun b1 => ?_)
  · skip
    refine pw_aloadn (aX7_isWord 16 rfl) rfl ?_
    refine pw_aloadn (aX7_isWord 17 rfl) rfl ?_
    refine pw_getr (v := .int (FI 111 7)) (aX7_isWord 18 rfl) uf_RX7_54 un_RX7_54 rfl ?_
    refine pw_iloadn (aX7_isWord 19 rfl) rfl ?_
    refine pw_iadd (aX7_isWord 20 rfl) ?_
    refine pw_callV (Bs := [.int ((FI 111 7) + (l2i))]) (rest := []) (aX7_isWord 21 rfl) um_RX7_57 ujX7_letter wc_RX7_57.2.2.2.2 (by decide) (by decide) rfl rfl (fun d => rX7_letter hkb ((FI 111 7) + (l2i)) n sl SH FI FL FR hok) (fun v2 n2 sl2 SH2 FI2 FL2 FR2 hok2 _ => ?_)
    show pw _ _ _ _ _ _ _ 38 _ [.int (v2)] _ _
    refine pw_aloadn (aX7_isWord 22 rfl) rfl ?_
    refine pw_iloadn (aX7_isWord 23 rfl) rfl ?_
    refine pw_callT (k := a1) (Bs := [.int (l2i)]) (rest := [.int (v2)]) hkb (aX7_isWord 24 rfl) um_RX7_114 ujJ0_charAt_5068e wc_RX7_114.2.2.2.2 (by decide) rfl rfl (fun d => rJ0_charAt_5068e hkb (a1) (l2i) n2 sl2 SH2 FI2 FL2 FR2 hok2) (fun v3 n3 sl3 SH3 FI3 FL3 FR3 hok3 _ => ?_)
    show pw _ _ _ _ _ _ _ 43 _ [.int (v3), .int (v2)] _ _
    refine pw_iceq (tgt := 48) (aX7_isWord 25 rfl) (by decide) (fun b4 => ?_) (fun b4 => ?_)
    · skip
      refine pw_iinc (v := (l2i) + (1 : Int32)) (L2 := [(2, .int ((l2i) + (1 : Int32))), (0, .ref (base + 111)), (1, .ref (sk.1 (a1).val))]) (aX7_isWord 28 rfl) rfl rfl rfl ?_
      refine pw_goto (tgt := 20) (aX7_isWord 29 rfl) (by decide) ?_
      exact pw_Li (L2 := [(0, .ref (base + 111)), (1, .ref (sk.1 (a1).val)), (2, .int ((l2i) + (1 : Int32)))]) [2, 0, 1] (hK20 ((l2i) + (1 : Int32)) n3 sl3 SH3 FI3 FL3 FR3 hok3) ⟨rfl, rfl, rfl, trivial⟩
    · skip
      refine pw_iconst (v := (0 : Int32)) (aX7_isWord 26 rfl) rfl ?_
      exact pw_iret (aX7_isWord 27 rfl) hok3
  · skip
    refine pw_iconst (v := (1 : Int32)) (aX7_isWord 30 rfl) rfl ?_
    exact pw_iret (aX7_isWord 31 rfl) hok
def GX7_isWord_20  (a1 : Fin 11) : Nat → Int32 → Nat → Nat → (Nat → Nat × Nat) → (Nat → Nat → Int32) → (Nat → Nat → Int64) → (Nat → Nat → Option Nat) → Int32 → hS → Prop
  | 0, _, _, _, _, _, _, _ => fun _ _ => False
  | g + 1, l2i, n, sl, SH, FI, FL, FR => BX7_isWord_20  (GX7_isWord_20  a1 g) a1 l2i n sl SH FI FL FR
def RX7_isWord_20  (a1 : Fin 11) (l2i : Int32) (n sl : Nat) (SH : Nat → Nat × Nat) (FI : Nat → Nat → Int32) (FL : Nat → Nat → Int64) (FR : Nat → Nat → Option Nat) : Int32 → hS → Prop := fun v s => ∃ g, GX7_isWord_20  a1 g l2i n sl SH FI FL FR v s
theorem gX7_isWord_20 {sk : xK} {base d : Nat}  (hkb : x_kb sk base) (a1 : Fin 11) (N : Nat) :  ∀ (l2i : Int32)  (n sl : Nat) (SH : Nat → Nat × Nat) (FI : Nat → Nat → Int32) (FL : Nat → Nat → Int64) (FR : Nat → Nat → Option Nat), pk n SH FR → pw pj_I sk base N d none 72 20 [(0, .ref (base + 111)), (1, .ref (sk.1 (a1).val)), (2, .int (l2i))] [] (n, sl, SH, FI, FL, FR) (GX7_isWord_20  a1 (N + 1) l2i n sl SH FI FL FR) := by
  induction N with
  | zero => intros; exact pw_0
  | succ N ih => intro   l2i  n sl SH FI FL FR hok; exact bX7_isWord_20 hkb a1 l2i  n sl SH FI FL FR hok  (ih  )
theorem rX7_isWord_20 {sk : xK} {base N d : Nat}  (hkb : x_kb sk base) (a1 : Fin 11) (l2i : Int32)  (n sl : Nat) (SH : Nat → Nat × Nat) (FI : Nat → Nat → Int32) (FL : Nat → Nat → Int64) (FR : Nat → Nat → Option Nat) (hok : pk n SH FR)   : pw pj_I sk base N d none 72 20 [(0, .ref (base + 111)), (1, .ref (sk.1 (a1).val)), (2, .int (l2i))] [] (n, sl, SH, FI, FL, FR) (RX7_isWord_20  a1 l2i n sl SH FI FL FR) := pw_cons (gX7_isWord_20 hkb a1 N   l2i  n sl SH FI FL FR hok) (fun _ _ h => ⟨_, h⟩)
def RX7_isWord (a1 : Fin 11) (n sl : Nat) (SH : Nat → Nat × Nat) (FI : Nat → Nat → Int32) (FL : Nat → Nat → Int64) (FR : Nat → Nat → Option Nat) : Int32 → hS → Prop := (P_if (((FI 111 8) - (FI 111 7)).toInt = (fJ0_length_8abf5 (a1) SH FI FL FR).toInt) (RX7_isWord_20  a1 ((0 : Int32)) n sl SH FI FL FR) (P_ret ((0 : Int32)) (n, sl, SH, FI, FL, FR)))
set_option maxHeartbeats 4000000 in
set_option maxRecDepth 100000 in
theorem rX7_isWord {sk : xK} {base N d : Nat} (hkb : x_kb sk base) (a1 : Fin 11) (n sl : Nat) (SH : Nat → Nat × Nat) (FI : Nat → Nat → Int32) (FL : Nat → Nat → Int64) (FR : Nat → Nat → Option Nat) (hok : pk n SH FR)  : pw pj_I sk base N d none 72 0 [(0, .ref (base + 111)), (1, .ref (sk.1 (a1).val))] [] (n, sl, SH, FI, FL, FR) (RX7_isWord a1 n sl SH FI FL FR) := by
  unfold RX7_isWord
  refine pw_aloadn (aX7_isWord 0 rfl) rfl ?_
  refine pw_getr (v := .int (FI 111 8)) (aX7_isWord 1 rfl) uf_RX7_38 un_RX7_38 rfl ?_
  refine pw_aloadn (aX7_isWord 2 rfl) rfl ?_
  refine pw_getr (v := .int (FI 111 7)) (aX7_isWord 3 rfl) uf_RX7_54 un_RX7_54 rfl ?_
  refine pw_isub (aX7_isWord 4 rfl) ?_
  refine pw_aloadn (aX7_isWord 5 rfl) rfl ?_
  refine pw_cf (pw_callT (k := a1) (Bs := []) (rest := [.int ((FI 111 8) - (FI 111 7))]) hkb (aX7_isWord 6 rfl) um_RX7_109 ujJ0_length_8abf5 wc_RX7_109.2.2.2.2 (by decide) rfl rfl (fun d => rJ0_length_8abf5 hkb (a1) n sl SH FI FL FR hok) (fun v0 n0 sl0 SH0 FI0 FL0 FR0 _ hC => ?_))
  obtain ⟨rfl, hC⟩ := hC; cases hC
  show pw _ _ _ _ _ _ _ 13 _ [.int (fJ0_length_8abf5 (a1) SH FI FL FR), .int ((FI 111 8) - (FI 111 7))] _ _
  refine pw_iceq (tgt := 18) (aX7_isWord 7 rfl) (by decide) (fun b1 => ?_) (fun b1 => ?_)
  · skip
    refine pw_iconst (v := (0 : Int32)) (aX7_isWord 10 rfl) rfl ?_
    refine pw_istoren (L2 := [(2, .int ((0 : Int32))), (0, .ref (base + 111)), (1, .ref (sk.1 (a1).val))]) (aX7_isWord 11 rfl) rfl ?_
    exact pw_Li (L2 := [(0, .ref (base + 111)), (1, .ref (sk.1 (a1).val)), (2, .int ((0 : Int32)))]) [2, 0, 1] (rX7_isWord_20 hkb a1 ((0 : Int32)) n sl SH FI FL FR hok  ) ⟨rfl, rfl, rfl, trivial⟩
  · skip
    refine pw_iconst (v := (0 : Int32)) (aX7_isWord 8 rfl) rfl ?_
    exact pw_iret (aX7_isWord 9 rfl) hok
def RX7_wordKind  (n sl : Nat) (SH : Nat → Nat × Nat) (FI : Nat → Nat → Int32) (FL : Nat → Nat → Int64) (FR : Nat → Nat → Option Nat) : Int32 → hS → Prop := (P_bi (RX7_letter (FI 111 7) n sl SH FI FL FR) (fun v0 n0 sl0 SH0 FI0 FL0 FR0 => (P_if ((v0).toInt = 98) (P_bi (RX7_isWord ((2 : Fin 11)) n0 sl0 SH0 FI0 FL0 FR0) (fun v2 n2 sl2 SH2 FI2 FL2 FR2 => (P_if ((v2).toInt = 0) (P_ret ((4 : Int32)) (n2, sl2, SH2, FI2, FL2, FR2)) (P_ret ((9 : Int32)) (n2, sl2, SH2, FI2, FL2, FR2))))) (P_if ((v0).toInt = 99) (P_bi (RX7_isWord ((5 : Fin 11)) n0 sl0 SH0 FI0 FL0 FR0) (fun v5 n5 sl5 SH5 FI5 FL5 FR5 => (P_if ((v5).toInt = 0) (P_ret ((4 : Int32)) (n5, sl5, SH5, FI5, FL5, FR5)) (P_ret ((12 : Int32)) (n5, sl5, SH5, FI5, FL5, FR5))))) (P_if ((v0).toInt = 100) (P_bi (RX7_isWord ((8 : Fin 11)) n0 sl0 SH0 FI0 FL0 FR0) (fun v8 n8 sl8 SH8 FI8 FL8 FR8 => (P_if ((v8).toInt = 0) (P_ret ((4 : Int32)) (n8, sl8, SH8, FI8, FL8, FR8)) (P_ret ((15 : Int32)) (n8, sl8, SH8, FI8, FL8, FR8))))) (P_if ((v0).toInt = 101 ∨ (v0).toInt = 103 ∨ (v0).toInt = 104 ∨ (v0).toInt = 105 ∨ (v0).toInt = 106 ∨ (v0).toInt = 107 ∨ (v0).toInt = 108 ∨ (v0).toInt = 112 ∨ (v0).toInt = 113 ∨ (v0).toInt = 115 ∨ (v0).toInt = 117) (P_ret ((4 : Int32)) (n0, sl0, SH0, FI0, FL0, FR0)) (P_if ((v0).toInt = 102) (P_bi (RX7_isWord ((4 : Fin 11)) n0 sl0 SH0 FI0 FL0 FR0) (fun v12 n12 sl12 SH12 FI12 FL12 FR12 => (P_if ((v12).toInt = 0) (P_ret ((4 : Int32)) (n12, sl12, SH12, FI12, FL12, FR12)) (P_ret ((11 : Int32)) (n12, sl12, SH12, FI12, FL12, FR12))))) (P_if ((v0).toInt = 109) (P_bi (RX7_isWord ((9 : Fin 11)) n0 sl0 SH0 FI0 FL0 FR0) (fun v15 n15 sl15 SH15 FI15 FL15 FR15 => (P_if ((v15).toInt = 0) (P_ret ((4 : Int32)) (n15, sl15, SH15, FI15, FL15, FR15)) (P_ret ((16 : Int32)) (n15, sl15, SH15, FI15, FL15, FR15))))) (P_if ((v0).toInt = 110) (P_bi (RX7_isWord ((3 : Fin 11)) n0 sl0 SH0 FI0 FL0 FR0) (fun v18 n18 sl18 SH18 FI18 FL18 FR18 => (P_if ((v18).toInt = 0) (P_ret ((4 : Int32)) (n18, sl18, SH18, FI18, FL18, FR18)) (P_ret ((10 : Int32)) (n18, sl18, SH18, FI18, FL18, FR18))))) (P_if ((v0).toInt = 111) (P_bi (RX7_isWord ((6 : Fin 11)) n0 sl0 SH0 FI0 FL0 FR0) (fun v21 n21 sl21 SH21 FI21 FL21 FR21 => (P_if ((v21).toInt = 0) (P_ret ((4 : Int32)) (n21, sl21, SH21, FI21, FL21, FR21)) (P_ret ((13 : Int32)) (n21, sl21, SH21, FI21, FL21, FR21))))) (P_if ((v0).toInt = 114) (P_bi (RX7_isWord ((0 : Fin 11)) n0 sl0 SH0 FI0 FL0 FR0) (fun v24 n24 sl24 SH24 FI24 FL24 FR24 => (P_if ((v24).toInt = 0) (P_ret ((4 : Int32)) (n24, sl24, SH24, FI24, FL24, FR24)) (P_ret ((7 : Int32)) (n24, sl24, SH24, FI24, FL24, FR24))))) (P_if ((v0).toInt = 116) (P_bi (RX7_isWord ((7 : Fin 11)) n0 sl0 SH0 FI0 FL0 FR0) (fun v27 n27 sl27 SH27 FI27 FL27 FR27 => (P_if ((v27).toInt = 0) (P_ret ((4 : Int32)) (n27, sl27, SH27, FI27, FL27, FR27)) (P_ret ((14 : Int32)) (n27, sl27, SH27, FI27, FL27, FR27))))) (P_if ((v0).toInt = 118) (P_bi (RX7_isWord ((1 : Fin 11)) n0 sl0 SH0 FI0 FL0 FR0) (fun v30 n30 sl30 SH30 FI30 FL30 FR30 => (P_if ((v30).toInt = 0) (P_ret ((4 : Int32)) (n30, sl30, SH30, FI30, FL30, FR30)) (P_ret ((8 : Int32)) (n30, sl30, SH30, FI30, FL30, FR30))))) (P_ret ((4 : Int32)) (n0, sl0, SH0, FI0, FL0, FR0)))))))))))))))
set_option maxHeartbeats 4000000 in
set_option maxRecDepth 100000 in
theorem rX7_wordKind {sk : xK} {base N d : Nat} (hkb : x_kb sk base)  (n sl : Nat) (SH : Nat → Nat × Nat) (FI : Nat → Nat → Int32) (FL : Nat → Nat → Int64) (FR : Nat → Nat → Option Nat) (hok : pk n SH FR)  : pw pj_I sk base N d none 71 0 [(0, .ref (base + 111))] [] (n, sl, SH, FI, FL, FR) (RX7_wordKind  n sl SH FI FL FR) := by
  unfold RX7_wordKind
  refine pw_aloadn (aX7_wordKind 0 rfl) rfl ?_
  refine pw_aloadn (aX7_wordKind 1 rfl) rfl ?_
  refine pw_getr (v := .int (FI 111 7)) (aX7_wordKind 2 rfl) uf_RX7_54 un_RX7_54 rfl ?_
  refine pw_callV (Bs := [.int (FI 111 7)]) (rest := []) (aX7_wordKind 3 rfl) um_RX7_57 ujX7_letter wc_RX7_57.2.2.2.2 (by decide) (by decide) rfl rfl (fun d => rX7_letter hkb (FI 111 7) n sl SH FI FL FR hok) (fun v0 n0 sl0 SH0 FI0 FL0 FR0 hok0 _ => ?_)
  show pw _ _ _ _ _ _ _ 8 _ [.int (v0)] _ _
  refine pw_tsw aX7_wordKind_8 (fun tg ht => ?_)
  refine pw_case ((v0).toInt = 98) (fun b2 => ?_) (fun b2 => ?_)
  · have et : tg = 140 := by
      rcases ht with ⟨h8, -⟩ | ⟨-, -, off, ho, ht⟩; { exact absurd h8 (by omega) }; { rw [b2] at ho; have e9 : off = (132 : Int) := (Option.some.inj (show some (132 : Int) = some off from ho)).symm; omega }
    subst et
    refine pw_aloadn (aX7_wordKind 20 rfl) rfl ?_
    refine pw_ldcS (k := (2 : Fin 11)) (aX7_wordKind 21 rfl) rfl uz_RX7_93 ?_
    refine pw_callV (Bs := [.ref (sk.1 ((2 : Fin 11)).val)]) (rest := []) (aX7_wordKind 22 rfl) um_RX7_87 ujX7_isWord wc_RX7_87.2.2.2.2 (by decide) (by decide) rfl rfl (fun d => rX7_isWord hkb ((2 : Fin 11)) n0 sl0 SH0 FI0 FL0 FR0 hok0) (fun v2 n2 sl2 SH2 FI2 FL2 FR2 hok2 _ => ?_)
    show pw _ _ _ _ _ _ _ 146 _ [.int (v2)] _ _
    refine pw_ifeq (tgt := 154) (aX7_wordKind 23 rfl) (by decide) (fun b3 => ?_) (fun b3 => ?_)
    · skip
      refine pw_iconst (v := (4 : Int32)) (aX7_wordKind 26 rfl) rfl ?_
      exact pw_iret (aX7_wordKind 27 rfl) hok2
    · skip
      refine pw_bipush (v := (9 : Int32)) (aX7_wordKind 24 rfl) rfl ?_
      refine pw_goto (tgt := 155) (aX7_wordKind 25 rfl) (by decide) ?_
      exact pw_iret (aX7_wordKind 27 rfl) hok2
  skip
  refine pw_case ((v0).toInt = 99) (fun b5 => ?_) (fun b5 => ?_)
  · have et : tg = 188 := by
      rcases ht with ⟨h8, -⟩ | ⟨-, -, off, ho, ht⟩; { exact absurd h8 (by omega) }; { rw [b5] at ho; have e9 : off = (180 : Int) := (Option.some.inj (show some (180 : Int) = some off from ho)).symm; omega }
    subst et
    refine pw_aloadn (aX7_wordKind 44 rfl) rfl ?_
    refine pw_ldcS (k := (5 : Fin 11)) (aX7_wordKind 45 rfl) rfl uz_RX7_99 ?_
    refine pw_callV (Bs := [.ref (sk.1 ((5 : Fin 11)).val)]) (rest := []) (aX7_wordKind 46 rfl) um_RX7_87 ujX7_isWord wc_RX7_87.2.2.2.2 (by decide) (by decide) rfl rfl (fun d => rX7_isWord hkb ((5 : Fin 11)) n0 sl0 SH0 FI0 FL0 FR0 hok0) (fun v5 n5 sl5 SH5 FI5 FL5 FR5 hok5 _ => ?_)
    show pw _ _ _ _ _ _ _ 194 _ [.int (v5)] _ _
    refine pw_ifeq (tgt := 202) (aX7_wordKind 47 rfl) (by decide) (fun b6 => ?_) (fun b6 => ?_)
    · skip
      refine pw_iconst (v := (4 : Int32)) (aX7_wordKind 50 rfl) rfl ?_
      exact pw_iret (aX7_wordKind 51 rfl) hok5
    · skip
      refine pw_bipush (v := (12 : Int32)) (aX7_wordKind 48 rfl) rfl ?_
      refine pw_goto (tgt := 203) (aX7_wordKind 49 rfl) (by decide) ?_
      exact pw_iret (aX7_wordKind 51 rfl) hok5
  skip
  refine pw_case ((v0).toInt = 100) (fun b8 => ?_) (fun b8 => ?_)
  · have et : tg = 236 := by
      rcases ht with ⟨h8, -⟩ | ⟨-, -, off, ho, ht⟩; { exact absurd h8 (by omega) }; { rw [b8] at ho; have e9 : off = (228 : Int) := (Option.some.inj (show some (228 : Int) = some off from ho)).symm; omega }
    subst et
    refine pw_aloadn (aX7_wordKind 68 rfl) rfl ?_
    refine pw_ldcS (k := (8 : Fin 11)) (aX7_wordKind 69 rfl) rfl uz_RX7_105 ?_
    refine pw_callV (Bs := [.ref (sk.1 ((8 : Fin 11)).val)]) (rest := []) (aX7_wordKind 70 rfl) um_RX7_87 ujX7_isWord wc_RX7_87.2.2.2.2 (by decide) (by decide) rfl rfl (fun d => rX7_isWord hkb ((8 : Fin 11)) n0 sl0 SH0 FI0 FL0 FR0 hok0) (fun v8 n8 sl8 SH8 FI8 FL8 FR8 hok8 _ => ?_)
    show pw _ _ _ _ _ _ _ 242 _ [.int (v8)] _ _
    refine pw_ifeq (tgt := 250) (aX7_wordKind 71 rfl) (by decide) (fun b9 => ?_) (fun b9 => ?_)
    · skip
      refine pw_iconst (v := (4 : Int32)) (aX7_wordKind 74 rfl) rfl ?_
      exact pw_iret (aX7_wordKind 75 rfl) hok8
    · skip
      refine pw_bipush (v := (15 : Int32)) (aX7_wordKind 72 rfl) rfl ?_
      refine pw_goto (tgt := 251) (aX7_wordKind 73 rfl) (by decide) ?_
      exact pw_iret (aX7_wordKind 75 rfl) hok8
  skip
  refine pw_case ((v0).toInt = 101 ∨ (v0).toInt = 103 ∨ (v0).toInt = 104 ∨ (v0).toInt = 105 ∨ (v0).toInt = 106 ∨ (v0).toInt = 107 ∨ (v0).toInt = 108 ∨ (v0).toInt = 112 ∨ (v0).toInt = 113 ∨ (v0).toInt = 115 ∨ (v0).toInt = 117) (fun b11 => ?_) (fun b11 => ?_)
  · have et : tg = 268 := by
      rcases b11 with h9 | h9 | h9 | h9 | h9 | h9 | h9 | h9 | h9 | h9 | h9
      · rcases ht with ⟨h8, -⟩ | ⟨-, -, off, ho, ht⟩; { exact absurd h8 (by omega) }; { rw [h9] at ho; have e9 : off = (260 : Int) := (Option.some.inj (show some (260 : Int) = some off from ho)).symm; omega }
      · rcases ht with ⟨h8, -⟩ | ⟨-, -, off, ho, ht⟩; { exact absurd h8 (by omega) }; { rw [h9] at ho; have e9 : off = (260 : Int) := (Option.some.inj (show some (260 : Int) = some off from ho)).symm; omega }
      · rcases ht with ⟨h8, -⟩ | ⟨-, -, off, ho, ht⟩; { exact absurd h8 (by omega) }; { rw [h9] at ho; have e9 : off = (260 : Int) := (Option.some.inj (show some (260 : Int) = some off from ho)).symm; omega }
      · rcases ht with ⟨h8, -⟩ | ⟨-, -, off, ho, ht⟩; { exact absurd h8 (by omega) }; { rw [h9] at ho; have e9 : off = (260 : Int) := (Option.some.inj (show some (260 : Int) = some off from ho)).symm; omega }
      · rcases ht with ⟨h8, -⟩ | ⟨-, -, off, ho, ht⟩; { exact absurd h8 (by omega) }; { rw [h9] at ho; have e9 : off = (260 : Int) := (Option.some.inj (show some (260 : Int) = some off from ho)).symm; omega }
      · rcases ht with ⟨h8, -⟩ | ⟨-, -, off, ho, ht⟩; { exact absurd h8 (by omega) }; { rw [h9] at ho; have e9 : off = (260 : Int) := (Option.some.inj (show some (260 : Int) = some off from ho)).symm; omega }
      · rcases ht with ⟨h8, -⟩ | ⟨-, -, off, ho, ht⟩; { exact absurd h8 (by omega) }; { rw [h9] at ho; have e9 : off = (260 : Int) := (Option.some.inj (show some (260 : Int) = some off from ho)).symm; omega }
      · rcases ht with ⟨h8, -⟩ | ⟨-, -, off, ho, ht⟩; { exact absurd h8 (by omega) }; { rw [h9] at ho; have e9 : off = (260 : Int) := (Option.some.inj (show some (260 : Int) = some off from ho)).symm; omega }
      · rcases ht with ⟨h8, -⟩ | ⟨-, -, off, ho, ht⟩; { exact absurd h8 (by omega) }; { rw [h9] at ho; have e9 : off = (260 : Int) := (Option.some.inj (show some (260 : Int) = some off from ho)).symm; omega }
      · rcases ht with ⟨h8, -⟩ | ⟨-, -, off, ho, ht⟩; { exact absurd h8 (by omega) }; { rw [h9] at ho; have e9 : off = (260 : Int) := (Option.some.inj (show some (260 : Int) = some off from ho)).symm; omega }
      · rcases ht with ⟨h8, -⟩ | ⟨-, -, off, ho, ht⟩; { exact absurd h8 (by omega) }; { rw [h9] at ho; have e9 : off = (260 : Int) := (Option.some.inj (show some (260 : Int) = some off from ho)).symm; omega }
    subst et
    refine pw_iconst (v := (4 : Int32)) (aX7_wordKind 84 rfl) rfl ?_
    exact pw_iret (aX7_wordKind 85 rfl) hok0
  skip
  refine pw_case ((v0).toInt = 102) (fun b12 => ?_) (fun b12 => ?_)
  · have et : tg = 172 := by
      rcases ht with ⟨h8, -⟩ | ⟨-, -, off, ho, ht⟩; { exact absurd h8 (by omega) }; { rw [b12] at ho; have e9 : off = (164 : Int) := (Option.some.inj (show some (164 : Int) = some off from ho)).symm; omega }
    subst et
    refine pw_aloadn (aX7_wordKind 36 rfl) rfl ?_
    refine pw_ldcS (k := (4 : Fin 11)) (aX7_wordKind 37 rfl) rfl uz_RX7_97 ?_
    refine pw_callV (Bs := [.ref (sk.1 ((4 : Fin 11)).val)]) (rest := []) (aX7_wordKind 38 rfl) um_RX7_87 ujX7_isWord wc_RX7_87.2.2.2.2 (by decide) (by decide) rfl rfl (fun d => rX7_isWord hkb ((4 : Fin 11)) n0 sl0 SH0 FI0 FL0 FR0 hok0) (fun v12 n12 sl12 SH12 FI12 FL12 FR12 hok12 _ => ?_)
    show pw _ _ _ _ _ _ _ 178 _ [.int (v12)] _ _
    refine pw_ifeq (tgt := 186) (aX7_wordKind 39 rfl) (by decide) (fun b13 => ?_) (fun b13 => ?_)
    · skip
      refine pw_iconst (v := (4 : Int32)) (aX7_wordKind 42 rfl) rfl ?_
      exact pw_iret (aX7_wordKind 43 rfl) hok12
    · skip
      refine pw_bipush (v := (11 : Int32)) (aX7_wordKind 40 rfl) rfl ?_
      refine pw_goto (tgt := 187) (aX7_wordKind 41 rfl) (by decide) ?_
      exact pw_iret (aX7_wordKind 43 rfl) hok12
  skip
  refine pw_case ((v0).toInt = 109) (fun b15 => ?_) (fun b15 => ?_)
  · have et : tg = 252 := by
      rcases ht with ⟨h8, -⟩ | ⟨-, -, off, ho, ht⟩; { exact absurd h8 (by omega) }; { rw [b15] at ho; have e9 : off = (244 : Int) := (Option.some.inj (show some (244 : Int) = some off from ho)).symm; omega }
    subst et
    refine pw_aloadn (aX7_wordKind 76 rfl) rfl ?_
    refine pw_ldcS (k := (9 : Fin 11)) (aX7_wordKind 77 rfl) rfl uz_RX7_107 ?_
    refine pw_callV (Bs := [.ref (sk.1 ((9 : Fin 11)).val)]) (rest := []) (aX7_wordKind 78 rfl) um_RX7_87 ujX7_isWord wc_RX7_87.2.2.2.2 (by decide) (by decide) rfl rfl (fun d => rX7_isWord hkb ((9 : Fin 11)) n0 sl0 SH0 FI0 FL0 FR0 hok0) (fun v15 n15 sl15 SH15 FI15 FL15 FR15 hok15 _ => ?_)
    show pw _ _ _ _ _ _ _ 258 _ [.int (v15)] _ _
    refine pw_ifeq (tgt := 266) (aX7_wordKind 79 rfl) (by decide) (fun b16 => ?_) (fun b16 => ?_)
    · skip
      refine pw_iconst (v := (4 : Int32)) (aX7_wordKind 82 rfl) rfl ?_
      exact pw_iret (aX7_wordKind 83 rfl) hok15
    · skip
      refine pw_bipush (v := (16 : Int32)) (aX7_wordKind 80 rfl) rfl ?_
      refine pw_goto (tgt := 267) (aX7_wordKind 81 rfl) (by decide) ?_
      exact pw_iret (aX7_wordKind 83 rfl) hok15
  skip
  refine pw_case ((v0).toInt = 110) (fun b18 => ?_) (fun b18 => ?_)
  · have et : tg = 156 := by
      rcases ht with ⟨h8, -⟩ | ⟨-, -, off, ho, ht⟩; { exact absurd h8 (by omega) }; { rw [b18] at ho; have e9 : off = (148 : Int) := (Option.some.inj (show some (148 : Int) = some off from ho)).symm; omega }
    subst et
    refine pw_aloadn (aX7_wordKind 28 rfl) rfl ?_
    refine pw_ldcS (k := (3 : Fin 11)) (aX7_wordKind 29 rfl) rfl uz_RX7_95 ?_
    refine pw_callV (Bs := [.ref (sk.1 ((3 : Fin 11)).val)]) (rest := []) (aX7_wordKind 30 rfl) um_RX7_87 ujX7_isWord wc_RX7_87.2.2.2.2 (by decide) (by decide) rfl rfl (fun d => rX7_isWord hkb ((3 : Fin 11)) n0 sl0 SH0 FI0 FL0 FR0 hok0) (fun v18 n18 sl18 SH18 FI18 FL18 FR18 hok18 _ => ?_)
    show pw _ _ _ _ _ _ _ 162 _ [.int (v18)] _ _
    refine pw_ifeq (tgt := 170) (aX7_wordKind 31 rfl) (by decide) (fun b19 => ?_) (fun b19 => ?_)
    · skip
      refine pw_iconst (v := (4 : Int32)) (aX7_wordKind 34 rfl) rfl ?_
      exact pw_iret (aX7_wordKind 35 rfl) hok18
    · skip
      refine pw_bipush (v := (10 : Int32)) (aX7_wordKind 32 rfl) rfl ?_
      refine pw_goto (tgt := 171) (aX7_wordKind 33 rfl) (by decide) ?_
      exact pw_iret (aX7_wordKind 35 rfl) hok18
  skip
  refine pw_case ((v0).toInt = 111) (fun b21 => ?_) (fun b21 => ?_)
  · have et : tg = 204 := by
      rcases ht with ⟨h8, -⟩ | ⟨-, -, off, ho, ht⟩; { exact absurd h8 (by omega) }; { rw [b21] at ho; have e9 : off = (196 : Int) := (Option.some.inj (show some (196 : Int) = some off from ho)).symm; omega }
    subst et
    refine pw_aloadn (aX7_wordKind 52 rfl) rfl ?_
    refine pw_ldcS (k := (6 : Fin 11)) (aX7_wordKind 53 rfl) rfl uz_RX7_101 ?_
    refine pw_callV (Bs := [.ref (sk.1 ((6 : Fin 11)).val)]) (rest := []) (aX7_wordKind 54 rfl) um_RX7_87 ujX7_isWord wc_RX7_87.2.2.2.2 (by decide) (by decide) rfl rfl (fun d => rX7_isWord hkb ((6 : Fin 11)) n0 sl0 SH0 FI0 FL0 FR0 hok0) (fun v21 n21 sl21 SH21 FI21 FL21 FR21 hok21 _ => ?_)
    show pw _ _ _ _ _ _ _ 210 _ [.int (v21)] _ _
    refine pw_ifeq (tgt := 218) (aX7_wordKind 55 rfl) (by decide) (fun b22 => ?_) (fun b22 => ?_)
    · skip
      refine pw_iconst (v := (4 : Int32)) (aX7_wordKind 58 rfl) rfl ?_
      exact pw_iret (aX7_wordKind 59 rfl) hok21
    · skip
      refine pw_bipush (v := (13 : Int32)) (aX7_wordKind 56 rfl) rfl ?_
      refine pw_goto (tgt := 219) (aX7_wordKind 57 rfl) (by decide) ?_
      exact pw_iret (aX7_wordKind 59 rfl) hok21
  skip
  refine pw_case ((v0).toInt = 114) (fun b24 => ?_) (fun b24 => ?_)
  · have et : tg = 108 := by
      rcases ht with ⟨h8, -⟩ | ⟨-, -, off, ho, ht⟩; { exact absurd h8 (by omega) }; { rw [b24] at ho; have e9 : off = (100 : Int) := (Option.some.inj (show some (100 : Int) = some off from ho)).symm; omega }
    subst et
    refine pw_aloadn (aX7_wordKind 4 rfl) rfl ?_
    refine pw_ldcS (k := (0 : Fin 11)) (aX7_wordKind 5 rfl) rfl uz_RX7_85 ?_
    refine pw_callV (Bs := [.ref (sk.1 ((0 : Fin 11)).val)]) (rest := []) (aX7_wordKind 6 rfl) um_RX7_87 ujX7_isWord wc_RX7_87.2.2.2.2 (by decide) (by decide) rfl rfl (fun d => rX7_isWord hkb ((0 : Fin 11)) n0 sl0 SH0 FI0 FL0 FR0 hok0) (fun v24 n24 sl24 SH24 FI24 FL24 FR24 hok24 _ => ?_)
    show pw _ _ _ _ _ _ _ 114 _ [.int (v24)] _ _
    refine pw_ifeq (tgt := 122) (aX7_wordKind 7 rfl) (by decide) (fun b25 => ?_) (fun b25 => ?_)
    · skip
      refine pw_iconst (v := (4 : Int32)) (aX7_wordKind 10 rfl) rfl ?_
      exact pw_iret (aX7_wordKind 11 rfl) hok24
    · skip
      refine pw_bipush (v := (7 : Int32)) (aX7_wordKind 8 rfl) rfl ?_
      refine pw_goto (tgt := 123) (aX7_wordKind 9 rfl) (by decide) ?_
      exact pw_iret (aX7_wordKind 11 rfl) hok24
  skip
  refine pw_case ((v0).toInt = 116) (fun b27 => ?_) (fun b27 => ?_)
  · have et : tg = 220 := by
      rcases ht with ⟨h8, -⟩ | ⟨-, -, off, ho, ht⟩; { exact absurd h8 (by omega) }; { rw [b27] at ho; have e9 : off = (212 : Int) := (Option.some.inj (show some (212 : Int) = some off from ho)).symm; omega }
    subst et
    refine pw_aloadn (aX7_wordKind 60 rfl) rfl ?_
    refine pw_ldcS (k := (7 : Fin 11)) (aX7_wordKind 61 rfl) rfl uz_RX7_103 ?_
    refine pw_callV (Bs := [.ref (sk.1 ((7 : Fin 11)).val)]) (rest := []) (aX7_wordKind 62 rfl) um_RX7_87 ujX7_isWord wc_RX7_87.2.2.2.2 (by decide) (by decide) rfl rfl (fun d => rX7_isWord hkb ((7 : Fin 11)) n0 sl0 SH0 FI0 FL0 FR0 hok0) (fun v27 n27 sl27 SH27 FI27 FL27 FR27 hok27 _ => ?_)
    show pw _ _ _ _ _ _ _ 226 _ [.int (v27)] _ _
    refine pw_ifeq (tgt := 234) (aX7_wordKind 63 rfl) (by decide) (fun b28 => ?_) (fun b28 => ?_)
    · skip
      refine pw_iconst (v := (4 : Int32)) (aX7_wordKind 66 rfl) rfl ?_
      exact pw_iret (aX7_wordKind 67 rfl) hok27
    · skip
      refine pw_bipush (v := (14 : Int32)) (aX7_wordKind 64 rfl) rfl ?_
      refine pw_goto (tgt := 235) (aX7_wordKind 65 rfl) (by decide) ?_
      exact pw_iret (aX7_wordKind 67 rfl) hok27
  skip
  refine pw_case ((v0).toInt = 118) (fun b30 => ?_) (fun b30 => ?_)
  · have et : tg = 124 := by
      rcases ht with ⟨h8, -⟩ | ⟨-, -, off, ho, ht⟩; { exact absurd h8 (by omega) }; { rw [b30] at ho; have e9 : off = (116 : Int) := (Option.some.inj (show some (116 : Int) = some off from ho)).symm; omega }
    subst et
    refine pw_aloadn (aX7_wordKind 12 rfl) rfl ?_
    refine pw_ldcS (k := (1 : Fin 11)) (aX7_wordKind 13 rfl) rfl uz_RX7_91 ?_
    refine pw_callV (Bs := [.ref (sk.1 ((1 : Fin 11)).val)]) (rest := []) (aX7_wordKind 14 rfl) um_RX7_87 ujX7_isWord wc_RX7_87.2.2.2.2 (by decide) (by decide) rfl rfl (fun d => rX7_isWord hkb ((1 : Fin 11)) n0 sl0 SH0 FI0 FL0 FR0 hok0) (fun v30 n30 sl30 SH30 FI30 FL30 FR30 hok30 _ => ?_)
    show pw _ _ _ _ _ _ _ 130 _ [.int (v30)] _ _
    refine pw_ifeq (tgt := 138) (aX7_wordKind 15 rfl) (by decide) (fun b31 => ?_) (fun b31 => ?_)
    · skip
      refine pw_iconst (v := (4 : Int32)) (aX7_wordKind 18 rfl) rfl ?_
      exact pw_iret (aX7_wordKind 19 rfl) hok30
    · skip
      refine pw_bipush (v := (8 : Int32)) (aX7_wordKind 16 rfl) rfl ?_
      refine pw_goto (tgt := 139) (aX7_wordKind 17 rfl) (by decide) ?_
      exact pw_iret (aX7_wordKind 19 rfl) hok30
  skip
  have et : tg = 268 := by
    rcases ht with ⟨-, h8⟩ | ⟨h1, h2, -⟩; { omega }; { exfalso; omega }
  subst et
  refine pw_iconst (v := (4 : Int32)) (aX7_wordKind 84 rfl) rfl ?_
  exact pw_iret (aX7_wordKind 85 rfl) hok0
def RX7_readWord_40 (K2 : Int32 → Nat → Nat → (Nat → Nat × Nat) → (Nat → Nat → Int32) → (Nat → Nat → Int64) → (Nat → Nat → Option Nat) → Unit → hS → Prop)  (l1i : Int32) (n sl : Nat) (SH : Nat → Nat × Nat) (FI : Nat → Nat → Int32) (FL : Nat → Nat → Int64) (FR : Nat → Nat → Option Nat) : Unit → hS → Prop := (K2 ((l1i) + (1 : Int32)) n sl SH FI FL FR)
set_option maxHeartbeats 4000000 in
set_option maxRecDepth 100000 in
theorem rX7_readWord_40 {sk : xK} {base N d : Nat} {K2 : Int32 → Nat → Nat → (Nat → Nat × Nat) → (Nat → Nat → Int32) → (Nat → Nat → Int64) → (Nat → Nat → Option Nat) → Unit → hS → Prop} (hkb : x_kb sk base)  (l1i : Int32)  (n sl : Nat) (SH : Nat → Nat × Nat) (FI : Nat → Nat → Int32) (FL : Nat → Nat → Int64) (FR : Nat → Nat → Option Nat) (hok : pk n SH FR)  (hK2 : ∀ (l1i : Int32) (n sl : Nat) (SH : Nat → Nat × Nat) (FI : Nat → Nat → Int32) (FL : Nat → Nat → Int64) (FR : Nat → Nat → Option Nat), pk n SH FR → pw pj_V sk base N d none 70 2 [(0, .ref (base + 111)), (1, .int (l1i))] [] (n, sl, SH, FI, FL, FR) (K2 l1i n sl SH FI FL FR)) : pw pj_V sk base N d none 70 40 [(0, .ref (base + 111)), (1, .int (l1i))] [] (n, sl, SH, FI, FL, FR) (RX7_readWord_40 K2  l1i n sl SH FI FL FR) := by
  unfold RX7_readWord_40
  refine pw_iinc (v := (l1i) + (1 : Int32)) (L2 := [(1, .int ((l1i) + (1 : Int32))), (0, .ref (base + 111))]) (aX7_readWord 21 rfl) rfl rfl rfl ?_
  refine pw_goto (tgt := 2) (aX7_readWord 22 rfl) (by decide) ?_
  exact pw_Li (L2 := [(0, .ref (base + 111)), (1, .int ((l1i) + (1 : Int32)))]) [1, 0] (hK2 ((l1i) + (1 : Int32)) n sl SH FI FL FR hok) ⟨rfl, rfl, trivial⟩
def BX7_readWord_2 (K2 : Int32 → Nat → Nat → (Nat → Nat × Nat) → (Nat → Nat → Int32) → (Nat → Nat → Int64) → (Nat → Nat → Option Nat) → Unit → hS → Prop)  (l1i : Int32) (n sl : Nat) (SH : Nat → Nat × Nat) (FI : Nat → Nat → Int32) (FL : Nat → Nat → Int64) (FR : Nat → Nat → Option Nat) : Unit → hS → Prop := (P_if ((l1i).toInt < ((8 : Int32)).toInt) (P_bi (RX7_letter ((FI 111 7) + (l1i)) n sl SH FI FL FR) (fun v1 n1 sl1 SH1 FI1 FL1 FR1 => (P_if ((fX7_isSmall (v1) SH1 FI1 FL1 FR1).toInt = 0) (P_bi (RX7_letter ((FI1 111 7) + (l1i)) n1 sl1 SH1 FI1 FL1 FR1) (fun v4 n4 sl4 SH4 FI4 FL4 FR4 => (P_if ((fX7_isDigit (v4) SH4 FI4 FL4 FR4).toInt = 0) (P_bi (RX7_wordKind  n4 sl4 SH4 (h_up FI4 111 8 ((FI4 111 7) + (l1i))) FL4 FR4) (fun v8 n8 sl8 SH8 FI8 FL8 FR8 => (P_ret () (n8, sl8, SH8, (h_up FI8 111 9 (v8)), FL8, FR8)))) (RX7_readWord_40 K2  (l1i) n4 sl4 SH4 FI4 FL4 FR4)))) (RX7_readWord_40 K2  (l1i) n1 sl1 SH1 FI1 FL1 FR1)))) (P_bi (RX7_wordKind  n sl SH (h_up FI 111 8 ((FI 111 7) + (l1i))) FL FR) (fun v11 n11 sl11 SH11 FI11 FL11 FR11 => (P_ret () (n11, sl11, SH11, (h_up FI11 111 9 (v11)), FL11, FR11)))))
set_option maxHeartbeats 4000000 in
set_option maxRecDepth 100000 in
theorem bX7_readWord_2 {sk : xK} {base N d : Nat} {K2 : Int32 → Nat → Nat → (Nat → Nat × Nat) → (Nat → Nat → Int32) → (Nat → Nat → Int64) → (Nat → Nat → Option Nat) → Unit → hS → Prop} (hkb : x_kb sk base)  (l1i : Int32)  (n sl : Nat) (SH : Nat → Nat × Nat) (FI : Nat → Nat → Int32) (FL : Nat → Nat → Int64) (FR : Nat → Nat → Option Nat) (hok : pk n SH FR)  (hK2 : ∀ (l1i : Int32) (n sl : Nat) (SH : Nat → Nat × Nat) (FI : Nat → Nat → Int32) (FL : Nat → Nat → Int64) (FR : Nat → Nat → Option Nat), pk n SH FR → pw pj_V sk base N d none 70 2 [(0, .ref (base + 111)), (1, .int (l1i))] [] (n, sl, SH, FI, FL, FR) (K2 l1i n sl SH FI FL FR)) : pw pj_V sk base (N + 1) d none 70 2 [(0, .ref (base + 111)), (1, .int (l1i))] [] (n, sl, SH, FI, FL, FR) (BX7_readWord_2 K2  l1i n sl SH FI FL FR) := by
  unfold BX7_readWord_2
  refine pd_iloadn (aX7_readWord 2 rfl) rfl ?_
  refine pw_bipush (v := (8 : Int32)) (aX7_readWord 3 rfl) rfl ?_
  refine pw_icge (tgt := 46) (aX7_readWord 4 rfl) (by decide) (fun b0 => ?_) (fun b0 => ?_)
  · skip
    refine pw_aloadn (aX7_readWord 5 rfl) rfl ?_
    refine pw_aloadn (aX7_readWord 6 rfl) rfl ?_
    refine pw_getr (v := .int (FI 111 7)) (aX7_readWord 7 rfl) uf_RX7_54 un_RX7_54 rfl ?_
    refine pw_iloadn (aX7_readWord 8 rfl) rfl ?_
    refine pw_iadd (aX7_readWord 9 rfl) ?_
    refine pw_callV (Bs := [.int ((FI 111 7) + (l1i))]) (rest := []) (aX7_readWord 10 rfl) um_RX7_57 ujX7_letter wc_RX7_57.2.2.2.2 (by decide) (by decide) rfl rfl (fun d => rX7_letter hkb ((FI 111 7) + (l1i)) n sl SH FI FL FR hok) (fun v1 n1 sl1 SH1 FI1 FL1 FR1 hok1 _ => ?_)
    show pw _ _ _ _ _ _ _ 18 _ [.int (v1)] _ _
    refine pw_cf (pw_callS (As := [.int (v1)]) (rest := []) (aX7_readWord 11 rfl) um_RX7_61 ujX7_isSmall wc_RX7_61.2.2.2.2 (by decide) rfl rfl (fun d => rX7_isSmall hkb (v1) n1 sl1 SH1 FI1 FL1 FR1 hok1) (fun v2 n2 sl2 SH2 FI2 FL2 FR2 _ hC => ?_))
    obtain ⟨rfl, hC⟩ := hC; cases hC
    show pw _ _ _ _ _ _ _ 21 _ [.int (fX7_isSmall (v1) SH1 FI1 FL1 FR1)] _ _
    refine pw_ifne (tgt := 40) (aX7_readWord 12 rfl) (by decide) (fun b3 => ?_) (fun b3 => ?_)
    · skip
      refine pw_aloadn (aX7_readWord 13 rfl) rfl ?_
      refine pw_aloadn (aX7_readWord 14 rfl) rfl ?_
      refine pw_getr (v := .int (FI1 111 7)) (aX7_readWord 15 rfl) uf_RX7_54 un_RX7_54 rfl ?_
      refine pw_iloadn (aX7_readWord 16 rfl) rfl ?_
      refine pw_iadd (aX7_readWord 17 rfl) ?_
      refine pw_callV (Bs := [.int ((FI1 111 7) + (l1i))]) (rest := []) (aX7_readWord 18 rfl) um_RX7_57 ujX7_letter wc_RX7_57.2.2.2.2 (by decide) (by decide) rfl rfl (fun d => rX7_letter hkb ((FI1 111 7) + (l1i)) n1 sl1 SH1 FI1 FL1 FR1 hok1) (fun v4 n4 sl4 SH4 FI4 FL4 FR4 hok4 _ => ?_)
      show pw _ _ _ _ _ _ _ 34 _ [.int (v4)] _ _
      refine pw_cf (pw_callS (As := [.int (v4)]) (rest := []) (aX7_readWord 19 rfl) um_RX7_68 ujX7_isDigit wc_RX7_68.2.2.2.2 (by decide) rfl rfl (fun d => rX7_isDigit hkb (v4) n4 sl4 SH4 FI4 FL4 FR4 hok4) (fun v5 n5 sl5 SH5 FI5 FL5 FR5 _ hC => ?_))
      obtain ⟨rfl, hC⟩ := hC; cases hC
      show pw _ _ _ _ _ _ _ 37 _ [.int (fX7_isDigit (v4) SH4 FI4 FL4 FR4)] _ _
      refine pw_ifeq (tgt := 46) (aX7_readWord 20 rfl) (by decide) (fun b6 => ?_) (fun b6 => ?_)
      · skip
        refine pw_aloadn (aX7_readWord 23 rfl) rfl ?_
        refine pw_aloadn (aX7_readWord 24 rfl) rfl ?_
        refine pw_getr (v := .int (FI4 111 7)) (aX7_readWord 25 rfl) uf_RX7_54 un_RX7_54 rfl ?_
        refine pw_iloadn (aX7_readWord 26 rfl) rfl ?_
        refine pw_iadd (aX7_readWord 27 rfl) ?_
        refine pw_putri (aX7_readWord 28 rfl) uf_RX7_38 (fun _ _ _ => rfl) (fun t8 => ?_)
        refine pw_aloadn (aX7_readWord 29 rfl) rfl ?_
        refine pw_aloadn (aX7_readWord 30 rfl) rfl ?_
        refine pw_callV (Bs := []) (rest := [.ref (base + 111)]) (aX7_readWord 31 rfl) um_RX7_81 ujX7_wordKind wc_RX7_81.2.2.2.2 (by decide) (by decide) rfl rfl (fun d => rX7_wordKind hkb  n4 sl4 SH4 (h_up FI4 111 8 ((FI4 111 7) + (l1i))) FL4 FR4 hok4) (fun v8 n8 sl8 SH8 FI8 FL8 FR8 hok8 _ => ?_)
        show pw _ _ _ _ _ _ _ 61 _ [.int (v8), .ref (base + 111)] _ _
        refine pw_putri (aX7_readWord 32 rfl) uf_RX7_44 (fun _ _ _ => rfl) (fun t10 => ?_)
        exact pw_vret (aX7_readWord 33 rfl) hok8
      · skip
        exact pw_Li (L2 := [(0, .ref (base + 111)), (1, .int (l1i))]) [0, 1] (rX7_readWord_40 hkb  (l1i) n4 sl4 SH4 FI4 FL4 FR4 hok4  hK2) ⟨rfl, rfl, trivial⟩
    · skip
      exact pw_Li (L2 := [(0, .ref (base + 111)), (1, .int (l1i))]) [0, 1] (rX7_readWord_40 hkb  (l1i) n1 sl1 SH1 FI1 FL1 FR1 hok1  hK2) ⟨rfl, rfl, trivial⟩
  · skip
    refine pw_aloadn (aX7_readWord 23 rfl) rfl ?_
    refine pw_aloadn (aX7_readWord 24 rfl) rfl ?_
    refine pw_getr (v := .int (FI 111 7)) (aX7_readWord 25 rfl) uf_RX7_54 un_RX7_54 rfl ?_
    refine pw_iloadn (aX7_readWord 26 rfl) rfl ?_
    refine pw_iadd (aX7_readWord 27 rfl) ?_
    refine pw_putri (aX7_readWord 28 rfl) uf_RX7_38 (fun _ _ _ => rfl) (fun t11 => ?_)
    refine pw_aloadn (aX7_readWord 29 rfl) rfl ?_
    refine pw_aloadn (aX7_readWord 30 rfl) rfl ?_
    refine pw_callV (Bs := []) (rest := [.ref (base + 111)]) (aX7_readWord 31 rfl) um_RX7_81 ujX7_wordKind wc_RX7_81.2.2.2.2 (by decide) (by decide) rfl rfl (fun d => rX7_wordKind hkb  n sl SH (h_up FI 111 8 ((FI 111 7) + (l1i))) FL FR hok) (fun v11 n11 sl11 SH11 FI11 FL11 FR11 hok11 _ => ?_)
    show pw _ _ _ _ _ _ _ 61 _ [.int (v11), .ref (base + 111)] _ _
    refine pw_putri (aX7_readWord 32 rfl) uf_RX7_44 (fun _ _ _ => rfl) (fun t13 => ?_)
    exact pw_vret (aX7_readWord 33 rfl) hok11
def GX7_readWord_2   : Nat → Int32 → Nat → Nat → (Nat → Nat × Nat) → (Nat → Nat → Int32) → (Nat → Nat → Int64) → (Nat → Nat → Option Nat) → Unit → hS → Prop
  | 0, _, _, _, _, _, _, _ => fun _ _ => False
  | g + 1, l1i, n, sl, SH, FI, FL, FR => BX7_readWord_2  (GX7_readWord_2   g)  l1i n sl SH FI FL FR
def RX7_readWord_2   (l1i : Int32) (n sl : Nat) (SH : Nat → Nat × Nat) (FI : Nat → Nat → Int32) (FL : Nat → Nat → Int64) (FR : Nat → Nat → Option Nat) : Unit → hS → Prop := fun v s => ∃ g, GX7_readWord_2   g l1i n sl SH FI FL FR v s
theorem gX7_readWord_2 {sk : xK} {base d : Nat}  (hkb : x_kb sk base)  (N : Nat) :  ∀ (l1i : Int32)  (n sl : Nat) (SH : Nat → Nat × Nat) (FI : Nat → Nat → Int32) (FL : Nat → Nat → Int64) (FR : Nat → Nat → Option Nat), pk n SH FR → pw pj_V sk base N d none 70 2 [(0, .ref (base + 111)), (1, .int (l1i))] [] (n, sl, SH, FI, FL, FR) (GX7_readWord_2   (N + 1) l1i n sl SH FI FL FR) := by
  induction N with
  | zero => intros; exact pw_0
  | succ N ih => intro   l1i  n sl SH FI FL FR hok; exact bX7_readWord_2 hkb  l1i  n sl SH FI FL FR hok  (ih  )
theorem rX7_readWord_2 {sk : xK} {base N d : Nat}  (hkb : x_kb sk base)  (l1i : Int32)  (n sl : Nat) (SH : Nat → Nat × Nat) (FI : Nat → Nat → Int32) (FL : Nat → Nat → Int64) (FR : Nat → Nat → Option Nat) (hok : pk n SH FR)   : pw pj_V sk base N d none 70 2 [(0, .ref (base + 111)), (1, .int (l1i))] [] (n, sl, SH, FI, FL, FR) (RX7_readWord_2   l1i n sl SH FI FL FR) := pw_cons (gX7_readWord_2 hkb  N   l1i  n sl SH FI FL FR hok) (fun _ _ h => ⟨_, h⟩)
def RX7_readWord  (n sl : Nat) (SH : Nat → Nat × Nat) (FI : Nat → Nat → Int32) (FL : Nat → Nat → Int64) (FR : Nat → Nat → Option Nat) : Unit → hS → Prop := (RX7_readWord_2   ((0 : Int32)) n sl SH FI FL FR)
set_option maxHeartbeats 4000000 in
set_option maxRecDepth 100000 in
theorem rX7_readWord {sk : xK} {base N d : Nat} (hkb : x_kb sk base)  (n sl : Nat) (SH : Nat → Nat × Nat) (FI : Nat → Nat → Int32) (FL : Nat → Nat → Int64) (FR : Nat → Nat → Option Nat) (hok : pk n SH FR)  : pw pj_V sk base N d none 70 0 [(0, .ref (base + 111))] [] (n, sl, SH, FI, FL, FR) (RX7_readWord  n sl SH FI FL FR) := by
  unfold RX7_readWord
  refine pw_iconst (v := (0 : Int32)) (aX7_readWord 0 rfl) rfl ?_
  refine pw_istoren (L2 := [(1, .int ((0 : Int32))), (0, .ref (base + 111))]) (aX7_readWord 1 rfl) rfl ?_
  exact pw_Li (L2 := [(0, .ref (base + 111)), (1, .int ((0 : Int32)))]) [1, 0] (rX7_readWord_2 hkb  ((0 : Int32)) n sl SH FI FL FR hok  ) ⟨rfl, rfl, trivial⟩
def RX7_readNumber_62   (l1i : Int32) (n sl : Nat) (SH : Nat → Nat × Nat) (FI : Nat → Nat → Int32) (FL : Nat → Nat → Int64) (FR : Nat → Nat → Option Nat) : Unit → hS → Prop := (P_bi (RX7_letter ((FI 111 7) + (l1i)) n sl SH (h_up FI 111 8 ((FI 111 7) + (l1i))) FL FR) (fun v1 n1 sl1 SH1 FI1 FL1 FR1 => (P_if ((fX7_isDigit (v1) SH1 FI1 FL1 FR1).toInt = 0) (P_if ((fX7_isSmall (v1) SH1 FI1 FL1 FR1).toInt = 0) (P_if ((v1).toInt < ((65 : Int32)).toInt) (P_ret () (n1, sl1, SH1, (h_up FI1 111 9 ((5 : Int32))), FL1, FR1)) (P_if (((90 : Int32)).toInt < (v1).toInt) (P_ret () (n1, sl1, SH1, (h_up FI1 111 9 ((5 : Int32))), FL1, FR1)) (P_ret () (n1, sl1, SH1, (h_up FI1 111 9 ((3 : Int32))), FL1, FR1)))) (P_ret () (n1, sl1, SH1, (h_up FI1 111 9 ((3 : Int32))), FL1, FR1))) (P_ret () (n1, sl1, SH1, (h_up FI1 111 9 ((3 : Int32))), FL1, FR1)))))
set_option maxHeartbeats 4000000 in
set_option maxRecDepth 100000 in
theorem rX7_readNumber_62 {sk : xK} {base N d : Nat}  (hkb : x_kb sk base)  (l1i : Int32)  (n sl : Nat) (SH : Nat → Nat × Nat) (FI : Nat → Nat → Int32) (FL : Nat → Nat → Int64) (FR : Nat → Nat → Option Nat) (hok : pk n SH FR)   : pw pj_V sk base N d none 73 62 [(0, .ref (base + 111)), (1, .int (l1i))] [] (n, sl, SH, FI, FL, FR) (RX7_readNumber_62   l1i n sl SH FI FL FR) := by
  unfold RX7_readNumber_62
  refine pw_aloadn (aX7_readNumber 34 rfl) rfl ?_
  refine pw_aloadn (aX7_readNumber 35 rfl) rfl ?_
  refine pw_getr (v := .int (FI 111 7)) (aX7_readNumber 36 rfl) uf_RX7_54 un_RX7_54 rfl ?_
  refine pw_iloadn (aX7_readNumber 37 rfl) rfl ?_
  refine pw_iadd (aX7_readNumber 38 rfl) ?_
  refine pw_putri (aX7_readNumber 39 rfl) uf_RX7_38 (fun _ _ _ => rfl) (fun t1 => ?_)
  refine pw_aloadn (aX7_readNumber 40 rfl) rfl ?_
  refine pw_aloadn (aX7_readNumber 41 rfl) rfl ?_
  refine pw_getr (v := .int ((FI 111 7) + (l1i))) (aX7_readNumber 42 rfl) uf_RX7_38 un_RX7_38 rfl ?_
  refine pw_callV (Bs := [.int ((FI 111 7) + (l1i))]) (rest := []) (aX7_readNumber 43 rfl) um_RX7_57 ujX7_letter wc_RX7_57.2.2.2.2 (by decide) (by decide) rfl rfl (fun d => rX7_letter hkb ((FI 111 7) + (l1i)) n sl SH (h_up FI 111 8 ((FI 111 7) + (l1i))) FL FR hok) (fun v1 n1 sl1 SH1 FI1 FL1 FR1 hok1 _ => ?_)
  show pw _ _ _ _ _ _ _ 80 _ [.int (v1)] _ _
  refine pw_istoren (L2 := [(2, .int (v1)), (0, .ref (base + 111)), (1, .int (l1i))]) (aX7_readNumber 44 rfl) rfl ?_
  refine pw_aloadn (aX7_readNumber 45 rfl) rfl ?_
  refine pw_iloadn (aX7_readNumber 46 rfl) rfl ?_
  refine pw_cf (pw_callS (As := [.int (v1)]) (rest := [.ref (base + 111)]) (aX7_readNumber 47 rfl) um_RX7_68 ujX7_isDigit wc_RX7_68.2.2.2.2 (by decide) rfl rfl (fun d => rX7_isDigit hkb (v1) n1 sl1 SH1 FI1 FL1 FR1 hok1) (fun v2 n2 sl2 SH2 FI2 FL2 FR2 _ hC => ?_))
  obtain ⟨rfl, hC⟩ := hC; cases hC
  show pw _ _ _ _ _ _ _ 86 _ [.int (fX7_isDigit (v1) SH1 FI1 FL1 FR1), .ref (base + 111)] _ _
  refine pw_ifne (tgt := 108) (aX7_readNumber 48 rfl) (by decide) (fun b3 => ?_) (fun b3 => ?_)
  · skip
    refine pw_iloadn (aX7_readNumber 49 rfl) rfl ?_
    refine pw_cf (pw_callS (As := [.int (v1)]) (rest := [.ref (base + 111)]) (aX7_readNumber 50 rfl) um_RX7_61 ujX7_isSmall wc_RX7_61.2.2.2.2 (by decide) rfl rfl (fun d => rX7_isSmall hkb (v1) n1 sl1 SH1 FI1 FL1 FR1 hok1) (fun v4 n4 sl4 SH4 FI4 FL4 FR4 _ hC => ?_))
    obtain ⟨rfl, hC⟩ := hC; cases hC
    show pw _ _ _ _ _ _ _ 93 _ [.int (fX7_isSmall (v1) SH1 FI1 FL1 FR1), .ref (base + 111)] _ _
    refine pw_ifne (tgt := 108) (aX7_readNumber 51 rfl) (by decide) (fun b5 => ?_) (fun b5 => ?_)
    · skip
      refine pw_iloadn (aX7_readNumber 52 rfl) rfl ?_
      refine pw_bipush (v := (65 : Int32)) (aX7_readNumber 53 rfl) rfl ?_
      refine pw_iclt (tgt := 112) (aX7_readNumber 54 rfl) (by decide) (fun b6 => ?_) (fun b6 => ?_)
      · skip
        refine pw_iconst (v := (5 : Int32)) (aX7_readNumber 60 rfl) rfl ?_
        refine pw_putri (aX7_readNumber 61 rfl) uf_RX7_44 (fun _ _ _ => rfl) (fun t8 => ?_)
        exact pw_vret (aX7_readNumber 62 rfl) hok1
      · skip
        refine pw_iloadn (aX7_readNumber 55 rfl) rfl ?_
        refine pw_bipush (v := (90 : Int32)) (aX7_readNumber 56 rfl) rfl ?_
        refine pw_icgt (tgt := 112) (aX7_readNumber 57 rfl) (by decide) (fun b8 => ?_) (fun b8 => ?_)
        · skip
          refine pw_iconst (v := (5 : Int32)) (aX7_readNumber 60 rfl) rfl ?_
          refine pw_putri (aX7_readNumber 61 rfl) uf_RX7_44 (fun _ _ _ => rfl) (fun t10 => ?_)
          exact pw_vret (aX7_readNumber 62 rfl) hok1
        · skip
          refine pw_iconst (v := (3 : Int32)) (aX7_readNumber 58 rfl) rfl ?_
          refine pw_goto (tgt := 113) (aX7_readNumber 59 rfl) (by decide) ?_
          refine pw_putri (aX7_readNumber 61 rfl) uf_RX7_44 (fun _ _ _ => rfl) (fun t11 => ?_)
          exact pw_vret (aX7_readNumber 62 rfl) hok1
    · skip
      refine pw_iconst (v := (3 : Int32)) (aX7_readNumber 58 rfl) rfl ?_
      refine pw_goto (tgt := 113) (aX7_readNumber 59 rfl) (by decide) ?_
      refine pw_putri (aX7_readNumber 61 rfl) uf_RX7_44 (fun _ _ _ => rfl) (fun t12 => ?_)
      exact pw_vret (aX7_readNumber 62 rfl) hok1
  · skip
    refine pw_iconst (v := (3 : Int32)) (aX7_readNumber 58 rfl) rfl ?_
    refine pw_goto (tgt := 113) (aX7_readNumber 59 rfl) (by decide) ?_
    refine pw_putri (aX7_readNumber 61 rfl) uf_RX7_44 (fun _ _ _ => rfl) (fun t13 => ?_)
    exact pw_vret (aX7_readNumber 62 rfl) hok1
def BX7_readNumber_7 (K7 : Int32 → Nat → Nat → (Nat → Nat × Nat) → (Nat → Nat → Int32) → (Nat → Nat → Int64) → (Nat → Nat → Option Nat) → Unit → hS → Prop)  (l1i : Int32) (n sl : Nat) (SH : Nat → Nat × Nat) (FI : Nat → Nat → Int32) (FL : Nat → Nat → Int64) (FR : Nat → Nat → Option Nat) : Unit → hS → Prop := (P_if ((l1i).toInt < ((18 : Int32)).toInt) (P_bi (RX7_letter ((FI 111 7) + (l1i)) n sl SH FI FL FR) (fun v1 n1 sl1 SH1 FI1 FL1 FR1 => (P_if ((fX7_isDigit (v1) SH1 FI1 FL1 FR1).toInt = 0) (RX7_readNumber_62   (l1i) n1 sl1 SH1 FI1 FL1 FR1) (P_bi (RX7_letter ((FI1 111 7) + (l1i)) n1 sl1 SH1 FI1 FL1 FR1) (fun v4 n4 sl4 SH4 FI4 FL4 FR4 => (K7 ((l1i) + (1 : Int32)) n4 sl4 SH4 FI4 (h_up FL4 111 10 (((FL1 111 10) * ((10 : Int64))) + (((v4) - ((48 : Int32))).toInt64))) FR4)))))) (RX7_readNumber_62   (l1i) n sl SH FI FL FR))
set_option maxHeartbeats 4000000 in
set_option maxRecDepth 100000 in
theorem bX7_readNumber_7 {sk : xK} {base N d : Nat} {K7 : Int32 → Nat → Nat → (Nat → Nat × Nat) → (Nat → Nat → Int32) → (Nat → Nat → Int64) → (Nat → Nat → Option Nat) → Unit → hS → Prop} (hkb : x_kb sk base)  (l1i : Int32)  (n sl : Nat) (SH : Nat → Nat × Nat) (FI : Nat → Nat → Int32) (FL : Nat → Nat → Int64) (FR : Nat → Nat → Option Nat) (hok : pk n SH FR)  (hK7 : ∀ (l1i : Int32) (n sl : Nat) (SH : Nat → Nat × Nat) (FI : Nat → Nat → Int32) (FL : Nat → Nat → Int64) (FR : Nat → Nat → Option Nat), pk n SH FR → pw pj_V sk base N d none 73 7 [(0, .ref (base + 111)), (1, .int (l1i))] [] (n, sl, SH, FI, FL, FR) (K7 l1i n sl SH FI FL FR)) : pw pj_V sk base (N + 1) d none 73 7 [(0, .ref (base + 111)), (1, .int (l1i))] [] (n, sl, SH, FI, FL, FR) (BX7_readNumber_7 K7  l1i n sl SH FI FL FR) := by
  unfold BX7_readNumber_7
  refine pd_iloadn (aX7_readNumber 5 rfl) rfl ?_
  refine pw_bipush (v := (18 : Int32)) (aX7_readNumber 6 rfl) rfl ?_
  refine pw_icge (tgt := 62) (aX7_readNumber 7 rfl) (by decide) (fun b0 => ?_) (fun b0 => ?_)
  · skip
    refine pw_aloadn (aX7_readNumber 8 rfl) rfl ?_
    refine pw_aloadn (aX7_readNumber 9 rfl) rfl ?_
    refine pw_getr (v := .int (FI 111 7)) (aX7_readNumber 10 rfl) uf_RX7_54 un_RX7_54 rfl ?_
    refine pw_iloadn (aX7_readNumber 11 rfl) rfl ?_
    refine pw_iadd (aX7_readNumber 12 rfl) ?_
    refine pw_callV (Bs := [.int ((FI 111 7) + (l1i))]) (rest := []) (aX7_readNumber 13 rfl) um_RX7_57 ujX7_letter wc_RX7_57.2.2.2.2 (by decide) (by decide) rfl rfl (fun d => rX7_letter hkb ((FI 111 7) + (l1i)) n sl SH FI FL FR hok) (fun v1 n1 sl1 SH1 FI1 FL1 FR1 hok1 _ => ?_)
    show pw _ _ _ _ _ _ _ 23 _ [.int (v1)] _ _
    refine pw_cf (pw_callS (As := [.int (v1)]) (rest := []) (aX7_readNumber 14 rfl) um_RX7_68 ujX7_isDigit wc_RX7_68.2.2.2.2 (by decide) rfl rfl (fun d => rX7_isDigit hkb (v1) n1 sl1 SH1 FI1 FL1 FR1 hok1) (fun v2 n2 sl2 SH2 FI2 FL2 FR2 _ hC => ?_))
    obtain ⟨rfl, hC⟩ := hC; cases hC
    show pw _ _ _ _ _ _ _ 26 _ [.int (fX7_isDigit (v1) SH1 FI1 FL1 FR1)] _ _
    refine pw_ifeq (tgt := 62) (aX7_readNumber 15 rfl) (by decide) (fun b3 => ?_) (fun b3 => ?_)
    · skip
      exact pw_Li (L2 := [(0, .ref (base + 111)), (1, .int (l1i))]) [0, 1] (rX7_readNumber_62 hkb  (l1i) n1 sl1 SH1 FI1 FL1 FR1 hok1  ) ⟨rfl, rfl, trivial⟩
    · skip
      refine pw_aloadn (aX7_readNumber 16 rfl) rfl ?_
      refine pw_aloadn (aX7_readNumber 17 rfl) rfl ?_
      refine pw_getr (v := .long (FL1 111 10)) (aX7_readNumber 18 rfl) uf_RX7_50 un_RX7_50 rfl ?_
      refine pw_ldc2 (v := (10 : Int64)) (aX7_readNumber 19 rfl) uk_RX7_118 ?_
      refine pw_lmul (aX7_readNumber 20 rfl) ?_
      refine pw_aloadn (aX7_readNumber 21 rfl) rfl ?_
      refine pw_aloadn (aX7_readNumber 22 rfl) rfl ?_
      refine pw_getr (v := .int (FI1 111 7)) (aX7_readNumber 23 rfl) uf_RX7_54 un_RX7_54 rfl ?_
      refine pw_iloadn (aX7_readNumber 24 rfl) rfl ?_
      refine pw_iadd (aX7_readNumber 25 rfl) ?_
      refine pw_callV (Bs := [.int ((FI1 111 7) + (l1i))]) (rest := [.long ((FL1 111 10) * ((10 : Int64))), .ref (base + 111)]) (aX7_readNumber 26 rfl) um_RX7_57 ujX7_letter wc_RX7_57.2.2.2.2 (by decide) (by decide) rfl rfl (fun d => rX7_letter hkb ((FI1 111 7) + (l1i)) n1 sl1 SH1 FI1 FL1 FR1 hok1) (fun v4 n4 sl4 SH4 FI4 FL4 FR4 hok4 _ => ?_)
      show pw _ _ _ _ _ _ _ 48 _ [.int (v4), .long ((FL1 111 10) * ((10 : Int64))), .ref (base + 111)] _ _
      refine pw_bipush (v := (48 : Int32)) (aX7_readNumber 27 rfl) rfl ?_
      refine pw_isub (aX7_readNumber 28 rfl) ?_
      refine pw_i2l (aX7_readNumber 29 rfl) ?_
      refine pw_ladd (aX7_readNumber 30 rfl) ?_
      refine pw_putrl (aX7_readNumber 31 rfl) uf_RX7_50 (fun _ _ _ => rfl) (fun t6 => ?_)
      refine pw_iinc (v := (l1i) + (1 : Int32)) (L2 := [(1, .int ((l1i) + (1 : Int32))), (0, .ref (base + 111))]) (aX7_readNumber 32 rfl) rfl rfl rfl ?_
      refine pw_goto (tgt := 7) (aX7_readNumber 33 rfl) (by decide) ?_
      exact pw_Li (L2 := [(0, .ref (base + 111)), (1, .int ((l1i) + (1 : Int32)))]) [1, 0] (hK7 ((l1i) + (1 : Int32)) n4 sl4 SH4 FI4 (h_up FL4 111 10 (((FL1 111 10) * ((10 : Int64))) + (((v4) - ((48 : Int32))).toInt64))) FR4 hok4) ⟨rfl, rfl, trivial⟩
  · skip
    exact pw_Li (L2 := [(0, .ref (base + 111)), (1, .int (l1i))]) [0, 1] (rX7_readNumber_62 hkb  (l1i) n sl SH FI FL FR hok  ) ⟨rfl, rfl, trivial⟩
def GX7_readNumber_7   : Nat → Int32 → Nat → Nat → (Nat → Nat × Nat) → (Nat → Nat → Int32) → (Nat → Nat → Int64) → (Nat → Nat → Option Nat) → Unit → hS → Prop
  | 0, _, _, _, _, _, _, _ => fun _ _ => False
  | g + 1, l1i, n, sl, SH, FI, FL, FR => BX7_readNumber_7  (GX7_readNumber_7   g)  l1i n sl SH FI FL FR
def RX7_readNumber_7   (l1i : Int32) (n sl : Nat) (SH : Nat → Nat × Nat) (FI : Nat → Nat → Int32) (FL : Nat → Nat → Int64) (FR : Nat → Nat → Option Nat) : Unit → hS → Prop := fun v s => ∃ g, GX7_readNumber_7   g l1i n sl SH FI FL FR v s
theorem gX7_readNumber_7 {sk : xK} {base d : Nat}  (hkb : x_kb sk base)  (N : Nat) :  ∀ (l1i : Int32)  (n sl : Nat) (SH : Nat → Nat × Nat) (FI : Nat → Nat → Int32) (FL : Nat → Nat → Int64) (FR : Nat → Nat → Option Nat), pk n SH FR → pw pj_V sk base N d none 73 7 [(0, .ref (base + 111)), (1, .int (l1i))] [] (n, sl, SH, FI, FL, FR) (GX7_readNumber_7   (N + 1) l1i n sl SH FI FL FR) := by
  induction N with
  | zero => intros; exact pw_0
  | succ N ih => intro   l1i  n sl SH FI FL FR hok; exact bX7_readNumber_7 hkb  l1i  n sl SH FI FL FR hok  (ih  )
theorem rX7_readNumber_7 {sk : xK} {base N d : Nat}  (hkb : x_kb sk base)  (l1i : Int32)  (n sl : Nat) (SH : Nat → Nat × Nat) (FI : Nat → Nat → Int32) (FL : Nat → Nat → Int64) (FR : Nat → Nat → Option Nat) (hok : pk n SH FR)   : pw pj_V sk base N d none 73 7 [(0, .ref (base + 111)), (1, .int (l1i))] [] (n, sl, SH, FI, FL, FR) (RX7_readNumber_7   l1i n sl SH FI FL FR) := pw_cons (gX7_readNumber_7 hkb  N   l1i  n sl SH FI FL FR hok) (fun _ _ h => ⟨_, h⟩)
def RX7_readNumber  (n sl : Nat) (SH : Nat → Nat × Nat) (FI : Nat → Nat → Int32) (FL : Nat → Nat → Int64) (FR : Nat → Nat → Option Nat) : Unit → hS → Prop := (RX7_readNumber_7   ((0 : Int32)) n sl SH FI (h_up FL 111 10 ((0 : Int64))) FR)
set_option maxHeartbeats 4000000 in
set_option maxRecDepth 100000 in
theorem rX7_readNumber {sk : xK} {base N d : Nat} (hkb : x_kb sk base)  (n sl : Nat) (SH : Nat → Nat × Nat) (FI : Nat → Nat → Int32) (FL : Nat → Nat → Int64) (FR : Nat → Nat → Option Nat) (hok : pk n SH FR)  : pw pj_V sk base N d none 73 0 [(0, .ref (base + 111))] [] (n, sl, SH, FI, FL, FR) (RX7_readNumber  n sl SH FI FL FR) := by
  unfold RX7_readNumber
  refine pw_aloadn (aX7_readNumber 0 rfl) rfl ?_
  refine pw_lconst (v := (0 : Int64)) (aX7_readNumber 1 rfl) rfl ?_
  refine pw_putrl (aX7_readNumber 2 rfl) uf_RX7_50 (fun _ _ _ => rfl) (fun t1 => ?_)
  refine pw_iconst (v := (0 : Int32)) (aX7_readNumber 3 rfl) rfl ?_
  refine pw_istoren (L2 := [(1, .int ((0 : Int32))), (0, .ref (base + 111))]) (aX7_readNumber 4 rfl) rfl ?_
  exact pw_Li (L2 := [(0, .ref (base + 111)), (1, .int ((0 : Int32)))]) [1, 0] (rX7_readNumber_7 hkb  ((0 : Int32)) n sl SH FI (h_up FL 111 10 ((0 : Int64))) FR hok  ) ⟨rfl, rfl, trivial⟩
def RX7_readAt  (n sl : Nat) (SH : Nat → Nat × Nat) (FI : Nat → Nat → Int32) (FL : Nat → Nat → Int64) (FR : Nat → Nat → Option Nat) : Unit → hS → Prop := (P_bi (RX7_letter ((FI 111 7) + ((1 : Int32))) n sl SH FI FL FR) (fun v0 n0 sl0 SH0 FI0 FL0 FR0 => (P_if (((v0) - ((48 : Int32))).toInt < ((1 : Int32)).toInt) (P_ret () (n0, sl0, SH0, (h_up (h_up FI0 111 9 ((3 : Int32))) 111 8 ((FI0 111 7) + ((2 : Int32)))), (h_up FL0 111 10 (((v0) - ((48 : Int32))).toInt64)), FR0)) (P_if (((8 : Int32)).toInt < ((v0) - ((48 : Int32))).toInt) (P_ret () (n0, sl0, SH0, (h_up (h_up FI0 111 9 ((3 : Int32))) 111 8 ((FI0 111 7) + ((2 : Int32)))), (h_up FL0 111 10 (((v0) - ((48 : Int32))).toInt64)), FR0)) (P_ret () (n0, sl0, SH0, (h_up (h_up FI0 111 9 ((6 : Int32))) 111 8 ((FI0 111 7) + ((2 : Int32)))), (h_up FL0 111 10 (((v0) - ((48 : Int32))).toInt64)), FR0))))))
set_option maxHeartbeats 4000000 in
set_option maxRecDepth 100000 in
theorem rX7_readAt {sk : xK} {base N d : Nat} (hkb : x_kb sk base)  (n sl : Nat) (SH : Nat → Nat × Nat) (FI : Nat → Nat → Int32) (FL : Nat → Nat → Int64) (FR : Nat → Nat → Option Nat) (hok : pk n SH FR)  : pw pj_V sk base N d none 74 0 [(0, .ref (base + 111))] [] (n, sl, SH, FI, FL, FR) (RX7_readAt  n sl SH FI FL FR) := by
  unfold RX7_readAt
  refine pw_aloadn (aX7_readAt 0 rfl) rfl ?_
  refine pw_aloadn (aX7_readAt 1 rfl) rfl ?_
  refine pw_getr (v := .int (FI 111 7)) (aX7_readAt 2 rfl) uf_RX7_54 un_RX7_54 rfl ?_
  refine pw_iconst (v := (1 : Int32)) (aX7_readAt 3 rfl) rfl ?_
  refine pw_iadd (aX7_readAt 4 rfl) ?_
  refine pw_callV (Bs := [.int ((FI 111 7) + ((1 : Int32)))]) (rest := []) (aX7_readAt 5 rfl) um_RX7_57 ujX7_letter wc_RX7_57.2.2.2.2 (by decide) (by decide) rfl rfl (fun d => rX7_letter hkb ((FI 111 7) + ((1 : Int32))) n sl SH FI FL FR hok) (fun v0 n0 sl0 SH0 FI0 FL0 FR0 hok0 _ => ?_)
  show pw _ _ _ _ _ _ _ 10 _ [.int (v0)] _ _
  refine pw_bipush (v := (48 : Int32)) (aX7_readAt 6 rfl) rfl ?_
  refine pw_isub (aX7_readAt 7 rfl) ?_
  refine pw_istoren (L2 := [(1, .int ((v0) - ((48 : Int32)))), (0, .ref (base + 111))]) (aX7_readAt 8 rfl) rfl ?_
  refine pw_aloadn (aX7_readAt 9 rfl) rfl ?_
  refine pw_iloadn (aX7_readAt 10 rfl) rfl ?_
  refine pw_i2l (aX7_readAt 11 rfl) ?_
  refine pw_putrl (aX7_readAt 12 rfl) uf_RX7_50 (fun _ _ _ => rfl) (fun t2 => ?_)
  refine pw_aloadn (aX7_readAt 13 rfl) rfl ?_
  refine pw_iloadn (aX7_readAt 14 rfl) rfl ?_
  refine pw_iconst (v := (1 : Int32)) (aX7_readAt 15 rfl) rfl ?_
  refine pw_iclt (tgt := 37) (aX7_readAt 16 rfl) (by decide) (fun b2 => ?_) (fun b2 => ?_)
  · skip
    refine pw_iconst (v := (3 : Int32)) (aX7_readAt 22 rfl) rfl ?_
    refine pw_putri (aX7_readAt 23 rfl) uf_RX7_44 (fun _ _ _ => rfl) (fun t4 => ?_)
    refine pw_aloadn (aX7_readAt 24 rfl) rfl ?_
    refine pw_aloadn (aX7_readAt 25 rfl) rfl ?_
    refine pw_getr (v := .int (FI0 111 7)) (aX7_readAt 26 rfl) uf_RX7_54 un_RX7_54 rfl ?_
    refine pw_iconst (v := (2 : Int32)) (aX7_readAt 27 rfl) rfl ?_
    refine pw_iadd (aX7_readAt 28 rfl) ?_
    refine pw_putri (aX7_readAt 29 rfl) uf_RX7_38 (fun _ _ _ => rfl) (fun t5 => ?_)
    exact pw_vret (aX7_readAt 30 rfl) hok0
  · skip
    refine pw_iloadn (aX7_readAt 17 rfl) rfl ?_
    refine pw_bipush (v := (8 : Int32)) (aX7_readAt 18 rfl) rfl ?_
    refine pw_icgt (tgt := 37) (aX7_readAt 19 rfl) (by decide) (fun b5 => ?_) (fun b5 => ?_)
    · skip
      refine pw_iconst (v := (3 : Int32)) (aX7_readAt 22 rfl) rfl ?_
      refine pw_putri (aX7_readAt 23 rfl) uf_RX7_44 (fun _ _ _ => rfl) (fun t7 => ?_)
      refine pw_aloadn (aX7_readAt 24 rfl) rfl ?_
      refine pw_aloadn (aX7_readAt 25 rfl) rfl ?_
      refine pw_getr (v := .int (FI0 111 7)) (aX7_readAt 26 rfl) uf_RX7_54 un_RX7_54 rfl ?_
      refine pw_iconst (v := (2 : Int32)) (aX7_readAt 27 rfl) rfl ?_
      refine pw_iadd (aX7_readAt 28 rfl) ?_
      refine pw_putri (aX7_readAt 29 rfl) uf_RX7_38 (fun _ _ _ => rfl) (fun t8 => ?_)
      exact pw_vret (aX7_readAt 30 rfl) hok0
    · skip
      refine pw_bipush (v := (6 : Int32)) (aX7_readAt 20 rfl) rfl ?_
      refine pw_goto (tgt := 38) (aX7_readAt 21 rfl) (by decide) ?_
      refine pw_putri (aX7_readAt 23 rfl) uf_RX7_44 (fun _ _ _ => rfl) (fun t9 => ?_)
      refine pw_aloadn (aX7_readAt 24 rfl) rfl ?_
      refine pw_aloadn (aX7_readAt 25 rfl) rfl ?_
      refine pw_getr (v := .int (FI0 111 7)) (aX7_readAt 26 rfl) uf_RX7_54 un_RX7_54 rfl ?_
      refine pw_iconst (v := (2 : Int32)) (aX7_readAt 27 rfl) rfl ?_
      refine pw_iadd (aX7_readAt 28 rfl) ?_
      refine pw_putri (aX7_readAt 29 rfl) uf_RX7_38 (fun _ _ _ => rfl) (fun t10 => ?_)
      exact pw_vret (aX7_readAt 30 rfl) hok0
def RX7_readSign_63  (a1 : Int32)  (n sl : Nat) (SH : Nat → Nat × Nat) (FI : Nat → Nat → Int32) (FL : Nat → Nat → Int64) (FR : Nat → Nat → Option Nat) : Unit → hS → Prop := (P_if ((FI 111 9).toInt = ((3 : Int32)).toInt) (P_bi (RJ0_indexOf_0f7a4 ((10 : Fin 11)) (((a1).toUInt32 % 65536).toInt32) n sl SH FI FL FR) (fun v1 n1 sl1 SH1 FI1 FL1 FR1 => (P_if ((v1).toInt < 0) (P_ret () (n1, sl1, SH1, (h_up (h_up FI1 111 9 ((3 : Int32))) 111 8 ((FI1 111 7) + ((1 : Int32)))), FL1, FR1)) (P_ret () (n1, sl1, SH1, (h_up (h_up FI1 111 9 (a1)) 111 8 ((FI1 111 7) + ((1 : Int32)))), FL1, FR1))))) (P_ret () (n, sl, SH, (h_up FI 111 8 ((FI 111 7) + ((2 : Int32)))), FL, FR)))
set_option maxHeartbeats 4000000 in
set_option maxRecDepth 100000 in
theorem rX7_readSign_63 {sk : xK} {base N d : Nat}  (hkb : x_kb sk base) (a1 : Int32)  (l2i : Int32) (n sl : Nat) (SH : Nat → Nat × Nat) (FI : Nat → Nat → Int32) (FL : Nat → Nat → Int64) (FR : Nat → Nat → Option Nat) (hok : pk n SH FR)   : pw pj_V sk base N d none 75 63 [(0, .ref (base + 111)), (1, .int (a1)), (2, .int (l2i))] [] (n, sl, SH, FI, FL, FR) (RX7_readSign_63  a1  n sl SH FI FL FR) := by
  unfold RX7_readSign_63
  refine pw_aloadn (aX7_readSign 34 rfl) rfl ?_
  refine pw_getr (v := .int (FI 111 9)) (aX7_readSign 35 rfl) uf_RX7_44 un_RX7_44 rfl ?_
  refine pw_iconst (v := (3 : Int32)) (aX7_readSign 36 rfl) rfl ?_
  refine pw_iceq (tgt := 84) (aX7_readSign 37 rfl) (by decide) (fun b0 => ?_) (fun b0 => ?_)
  · skip
    refine pw_aloadn (aX7_readSign 45 rfl) rfl ?_
    refine pw_ldcS (k := (10 : Fin 11)) (aX7_readSign 46 rfl) rfl uz_RX7_123 ?_
    refine pw_iloadn (aX7_readSign 47 rfl) rfl ?_
    refine pw_i2c (aX7_readSign 48 rfl) ?_
    refine pw_callT (k := (10 : Fin 11)) (Bs := [.int (((a1).toUInt32 % 65536).toInt32)]) (rest := [.ref (base + 111)]) hkb (aX7_readSign 49 rfl) um_RX7_125 ujJ0_indexOf_0f7a4 wc_RX7_125.2.2.2.2 (by decide) rfl rfl (fun d => rJ0_indexOf_0f7a4 hkb ((10 : Fin 11)) (((a1).toUInt32 % 65536).toInt32) n sl SH FI FL FR hok) (fun v1 n1 sl1 SH1 FI1 FL1 FR1 hok1 _ => ?_)
    show pw _ _ _ _ _ _ _ 92 _ [.int (v1), .ref (base + 111)] _ _
    refine pw_iflt (tgt := 99) (aX7_readSign 50 rfl) (by decide) (fun b2 => ?_) (fun b2 => ?_)
    · skip
      refine pw_iconst (v := (3 : Int32)) (aX7_readSign 53 rfl) rfl ?_
      refine pw_putri (aX7_readSign 54 rfl) uf_RX7_44 (fun _ _ _ => rfl) (fun t4 => ?_)
      refine pw_aloadn (aX7_readSign 55 rfl) rfl ?_
      refine pw_aloadn (aX7_readSign 56 rfl) rfl ?_
      refine pw_getr (v := .int (FI1 111 7)) (aX7_readSign 57 rfl) uf_RX7_54 un_RX7_54 rfl ?_
      refine pw_iconst (v := (1 : Int32)) (aX7_readSign 58 rfl) rfl ?_
      refine pw_iadd (aX7_readSign 59 rfl) ?_
      refine pw_putri (aX7_readSign 60 rfl) uf_RX7_38 (fun _ _ _ => rfl) (fun t5 => ?_)
      exact pw_vret (aX7_readSign 61 rfl) hok1
    · skip
      refine pw_iloadn (aX7_readSign 51 rfl) rfl ?_
      refine pw_goto (tgt := 100) (aX7_readSign 52 rfl) (by decide) ?_
      refine pw_putri (aX7_readSign 54 rfl) uf_RX7_44 (fun _ _ _ => rfl) (fun t6 => ?_)
      refine pw_aloadn (aX7_readSign 55 rfl) rfl ?_
      refine pw_aloadn (aX7_readSign 56 rfl) rfl ?_
      refine pw_getr (v := .int (FI1 111 7)) (aX7_readSign 57 rfl) uf_RX7_54 un_RX7_54 rfl ?_
      refine pw_iconst (v := (1 : Int32)) (aX7_readSign 58 rfl) rfl ?_
      refine pw_iadd (aX7_readSign 59 rfl) ?_
      refine pw_putri (aX7_readSign 60 rfl) uf_RX7_38 (fun _ _ _ => rfl) (fun t7 => ?_)
      exact pw_vret (aX7_readSign 61 rfl) hok1
  · skip
    refine pw_aloadn (aX7_readSign 38 rfl) rfl ?_
    refine pw_aloadn (aX7_readSign 39 rfl) rfl ?_
    refine pw_getr (v := .int (FI 111 7)) (aX7_readSign 40 rfl) uf_RX7_54 un_RX7_54 rfl ?_
    refine pw_iconst (v := (2 : Int32)) (aX7_readSign 41 rfl) rfl ?_
    refine pw_iadd (aX7_readSign 42 rfl) ?_
    refine pw_putri (aX7_readSign 43 rfl) uf_RX7_38 (fun _ _ _ => rfl) (fun t8 => ?_)
    refine pw_goto (tgt := 113) (aX7_readSign 44 rfl) (by decide) ?_
    exact pw_vret (aX7_readSign 61 rfl) hok
def RX7_readSign (a1 : Int32) (n sl : Nat) (SH : Nat → Nat × Nat) (FI : Nat → Nat → Int32) (FL : Nat → Nat → Int64) (FR : Nat → Nat → Option Nat) : Unit → hS → Prop := (P_bi (RX7_letter ((FI 111 7) + ((1 : Int32))) n sl SH FI FL FR) (fun v0 n0 sl0 SH0 FI0 FL0 FR0 => (P_if ((fX7_signOfTwo (a1) (v0) SH0 FI0 FL0 FR0).toInt = ((23 : Int32)).toInt) (P_bi (RX7_letter ((FI0 111 7) + ((2 : Int32))) n0 sl0 SH0 (h_up FI0 111 9 (fX7_signOfTwo (a1) (v0) SH0 FI0 FL0 FR0)) FL0 FR0) (fun v4 n4 sl4 SH4 FI4 FL4 FR4 => (P_if ((v4).toInt = ((62 : Int32)).toInt) (P_ret () (n4, sl4, SH4, (h_up (h_up FI4 111 9 ((24 : Int32))) 111 8 ((FI4 111 7) + ((3 : Int32)))), FL4, FR4)) (RX7_readSign_63  a1  n4 sl4 SH4 FI4 FL4 FR4)))) (RX7_readSign_63  a1  n0 sl0 SH0 (h_up FI0 111 9 (fX7_signOfTwo (a1) (v0) SH0 FI0 FL0 FR0)) FL0 FR0))))
set_option maxHeartbeats 4000000 in
set_option maxRecDepth 100000 in
theorem rX7_readSign {sk : xK} {base N d : Nat} (hkb : x_kb sk base) (a1 : Int32) (n sl : Nat) (SH : Nat → Nat × Nat) (FI : Nat → Nat → Int32) (FL : Nat → Nat → Int64) (FR : Nat → Nat → Option Nat) (hok : pk n SH FR)  : pw pj_V sk base N d none 75 0 [(0, .ref (base + 111)), (1, .int (a1))] [] (n, sl, SH, FI, FL, FR) (RX7_readSign a1 n sl SH FI FL FR) := by
  unfold RX7_readSign
  refine pw_aloadn (aX7_readSign 0 rfl) rfl ?_
  refine pw_aloadn (aX7_readSign 1 rfl) rfl ?_
  refine pw_getr (v := .int (FI 111 7)) (aX7_readSign 2 rfl) uf_RX7_54 un_RX7_54 rfl ?_
  refine pw_iconst (v := (1 : Int32)) (aX7_readSign 3 rfl) rfl ?_
  refine pw_iadd (aX7_readSign 4 rfl) ?_
  refine pw_callV (Bs := [.int ((FI 111 7) + ((1 : Int32)))]) (rest := []) (aX7_readSign 5 rfl) um_RX7_57 ujX7_letter wc_RX7_57.2.2.2.2 (by decide) (by decide) rfl rfl (fun d => rX7_letter hkb ((FI 111 7) + ((1 : Int32))) n sl SH FI FL FR hok) (fun v0 n0 sl0 SH0 FI0 FL0 FR0 hok0 _ => ?_)
  show pw _ _ _ _ _ _ _ 10 _ [.int (v0)] _ _
  refine pw_istoren (L2 := [(2, .int (v0)), (0, .ref (base + 111)), (1, .int (a1))]) (aX7_readSign 6 rfl) rfl ?_
  refine pw_aloadn (aX7_readSign 7 rfl) rfl ?_
  refine pw_iloadn (aX7_readSign 8 rfl) rfl ?_
  refine pw_iloadn (aX7_readSign 9 rfl) rfl ?_
  refine pw_cf (pw_callS (As := [.int (a1), .int (v0)]) (rest := [.ref (base + 111)]) (aX7_readSign 10 rfl) um_RX7_120 ujX7_signOfTwo wc_RX7_120.2.2.2.2 (by decide) rfl rfl (fun d => rX7_signOfTwo hkb (a1) (v0) n0 sl0 SH0 FI0 FL0 FR0 hok0) (fun v1 n1 sl1 SH1 FI1 FL1 FR1 _ hC => ?_))
  obtain ⟨rfl, hC⟩ := hC; cases hC
  show pw _ _ _ _ _ _ _ 17 _ [.int (fX7_signOfTwo (a1) (v0) SH0 FI0 FL0 FR0), .ref (base + 111)] _ _
  refine pw_putri (aX7_readSign 11 rfl) uf_RX7_44 (fun _ _ _ => rfl) (fun t3 => ?_)
  refine pw_aloadn (aX7_readSign 12 rfl) rfl ?_
  refine pw_getr (v := .int (fX7_signOfTwo (a1) (v0) SH0 FI0 FL0 FR0)) (aX7_readSign 13 rfl) uf_RX7_44 un_RX7_44 rfl ?_
  refine pw_bipush (v := (23 : Int32)) (aX7_readSign 14 rfl) rfl ?_
  refine pw_icne (tgt := 63) (aX7_readSign 15 rfl) (by decide) (fun b3 => ?_) (fun b3 => ?_)
  · skip
    refine pw_aloadn (aX7_readSign 16 rfl) rfl ?_
    refine pw_aloadn (aX7_readSign 17 rfl) rfl ?_
    refine pw_getr (v := .int (FI0 111 7)) (aX7_readSign 18 rfl) uf_RX7_54 un_RX7_54 rfl ?_
    refine pw_iconst (v := (2 : Int32)) (aX7_readSign 19 rfl) rfl ?_
    refine pw_iadd (aX7_readSign 20 rfl) ?_
    refine pw_callV (Bs := [.int ((FI0 111 7) + ((2 : Int32)))]) (rest := []) (aX7_readSign 21 rfl) um_RX7_57 ujX7_letter wc_RX7_57.2.2.2.2 (by decide) (by decide) rfl rfl (fun d => rX7_letter hkb ((FI0 111 7) + ((2 : Int32))) n0 sl0 SH0 (h_up FI0 111 9 (fX7_signOfTwo (a1) (v0) SH0 FI0 FL0 FR0)) FL0 FR0 hok0) (fun v4 n4 sl4 SH4 FI4 FL4 FR4 hok4 _ => ?_)
    show pw _ _ _ _ _ _ _ 39 _ [.int (v4)] _ _
    refine pw_bipush (v := (62 : Int32)) (aX7_readSign 22 rfl) rfl ?_
    refine pw_icne (tgt := 63) (aX7_readSign 23 rfl) (by decide) (fun b5 => ?_) (fun b5 => ?_)
    · skip
      refine pw_aloadn (aX7_readSign 24 rfl) rfl ?_
      refine pw_bipush (v := (24 : Int32)) (aX7_readSign 25 rfl) rfl ?_
      refine pw_putri (aX7_readSign 26 rfl) uf_RX7_44 (fun _ _ _ => rfl) (fun t7 => ?_)
      refine pw_aloadn (aX7_readSign 27 rfl) rfl ?_
      refine pw_aloadn (aX7_readSign 28 rfl) rfl ?_
      refine pw_getr (v := .int (FI4 111 7)) (aX7_readSign 29 rfl) uf_RX7_54 un_RX7_54 rfl ?_
      refine pw_iconst (v := (3 : Int32)) (aX7_readSign 30 rfl) rfl ?_
      refine pw_iadd (aX7_readSign 31 rfl) ?_
      refine pw_putri (aX7_readSign 32 rfl) uf_RX7_38 (fun _ _ _ => rfl) (fun t8 => ?_)
      refine pw_goto (tgt := 113) (aX7_readSign 33 rfl) (by decide) ?_
      exact pw_vret (aX7_readSign 61 rfl) hok4
    · skip
      exact pw_Li (L2 := [(0, .ref (base + 111)), (1, .int (a1)), (2, .int (v0))]) [2, 0, 1] (rX7_readSign_63 hkb a1 (v0) n4 sl4 SH4 FI4 FL4 FR4 hok4  ) ⟨rfl, rfl, rfl, trivial⟩
  · skip
    exact pw_Li (L2 := [(0, .ref (base + 111)), (1, .int (a1)), (2, .int (v0))]) [2, 0, 1] (rX7_readSign_63 hkb a1 (v0) n0 sl0 SH0 (h_up FI0 111 9 (fX7_signOfTwo (a1) (v0) SH0 FI0 FL0 FR0)) FL0 FR0 hok0  ) ⟨rfl, rfl, rfl, trivial⟩
def RX7_readToken_39 (K0 : Nat → Nat → (Nat → Nat × Nat) → (Nat → Nat → Int32) → (Nat → Nat → Int64) → (Nat → Nat → Option Nat) → Unit → hS → Prop)   (n sl : Nat) (SH : Nat → Nat × Nat) (FI : Nat → Nat → Int32) (FL : Nat → Nat → Int64) (FR : Nat → Nat → Option Nat) : Unit → hS → Prop := (K0  n sl SH (h_up FI 111 8 ((FI 111 8) + ((1 : Int32)))) FL FR)
set_option maxHeartbeats 4000000 in
set_option maxRecDepth 100000 in
theorem rX7_readToken_39 {sk : xK} {base N d : Nat} {K0 : Nat → Nat → (Nat → Nat × Nat) → (Nat → Nat → Int32) → (Nat → Nat → Int64) → (Nat → Nat → Option Nat) → Unit → hS → Prop} (hkb : x_kb sk base)    (n sl : Nat) (SH : Nat → Nat × Nat) (FI : Nat → Nat → Int32) (FL : Nat → Nat → Int64) (FR : Nat → Nat → Option Nat) (hok : pk n SH FR)  (hK0 : ∀  (n sl : Nat) (SH : Nat → Nat × Nat) (FI : Nat → Nat → Int32) (FL : Nat → Nat → Int64) (FR : Nat → Nat → Option Nat), pk n SH FR → pw pj_V sk base N d none 66 0 [(0, .ref (base + 111))] [] (n, sl, SH, FI, FL, FR) (K0  n sl SH FI FL FR)) : pw pj_V sk base N d none 66 39 [(0, .ref (base + 111))] [] (n, sl, SH, FI, FL, FR) (RX7_readToken_39 K0   n sl SH FI FL FR) := by
  unfold RX7_readToken_39
  refine pw_aloadn (aX7_readToken 19 rfl) rfl ?_
  refine pw_dup (aX7_readToken 20 rfl) ?_
  refine pw_getr (v := .int (FI 111 8)) (aX7_readToken 21 rfl) uf_RX7_38 un_RX7_38 rfl ?_
  refine pw_iconst (v := (1 : Int32)) (aX7_readToken 22 rfl) rfl ?_
  refine pw_iadd (aX7_readToken 23 rfl) ?_
  refine pw_putri (aX7_readToken 24 rfl) uf_RX7_38 (fun _ _ _ => rfl) (fun t1 => ?_)
  refine pw_goto (tgt := 0) (aX7_readToken 25 rfl) (by decide) ?_
  exact pw_Li (L2 := [(0, .ref (base + 111))]) [0] (hK0  n sl SH (h_up FI 111 8 ((FI 111 8) + ((1 : Int32)))) FL FR hok) ⟨rfl, trivial⟩
def RX7_readToken_52    (n sl : Nat) (SH : Nat → Nat × Nat) (FI : Nat → Nat → Int32) (FL : Nat → Nat → Int64) (FR : Nat → Nat → Option Nat) : Unit → hS → Prop := (P_bi (RX7_letter (FI 111 8) n sl SH (h_up FI 111 7 (FI 111 8)) FL FR) (fun v1 n1 sl1 SH1 FI1 FL1 FR1 => (P_if ((v1).toInt = ((-1 : Int32)).toInt) (P_ret () (n1, sl1, SH1, (h_up FI1 111 9 ((2 : Int32))), FL1, FR1)) (P_if ((fX7_isSmall (v1) SH1 FI1 FL1 FR1).toInt = 0) (P_if ((fX7_isDigit (v1) SH1 FI1 FL1 FR1).toInt = 0) (P_if ((v1).toInt = ((64 : Int32)).toInt) (P_bi (RX7_readAt  n1 sl1 SH1 FI1 FL1 FR1) (fun v9 n9 sl9 SH9 FI9 FL9 FR9 => (P_ret () (n9, sl9, SH9, FI9, FL9, FR9)))) (P_bi (RX7_readSign (v1) n1 sl1 SH1 FI1 FL1 FR1) (fun v10 n10 sl10 SH10 FI10 FL10 FR10 => (P_ret () (n10, sl10, SH10, FI10, FL10, FR10))))) (P_bi (RX7_readNumber  n1 sl1 SH1 FI1 FL1 FR1) (fun v11 n11 sl11 SH11 FI11 FL11 FR11 => (P_ret () (n11, sl11, SH11, FI11, FL11, FR11))))) (P_bi (RX7_readWord  n1 sl1 SH1 FI1 FL1 FR1) (fun v12 n12 sl12 SH12 FI12 FL12 FR12 => (P_ret () (n12, sl12, SH12, FI12, FL12, FR12))))))))
set_option maxHeartbeats 4000000 in
set_option maxRecDepth 100000 in
theorem rX7_readToken_52 {sk : xK} {base N d : Nat}  (hkb : x_kb sk base)    (n sl : Nat) (SH : Nat → Nat × Nat) (FI : Nat → Nat → Int32) (FL : Nat → Nat → Int64) (FR : Nat → Nat → Option Nat) (hok : pk n SH FR)   : pw pj_V sk base N d none 66 52 [(0, .ref (base + 111))] [] (n, sl, SH, FI, FL, FR) (RX7_readToken_52    n sl SH FI FL FR) := by
  unfold RX7_readToken_52
  refine pw_aloadn (aX7_readToken 26 rfl) rfl ?_
  refine pw_aloadn (aX7_readToken 27 rfl) rfl ?_
  refine pw_getr (v := .int (FI 111 8)) (aX7_readToken 28 rfl) uf_RX7_38 un_RX7_38 rfl ?_
  refine pw_putri (aX7_readToken 29 rfl) uf_RX7_54 (fun _ _ _ => rfl) (fun t1 => ?_)
  refine pw_aloadn (aX7_readToken 30 rfl) rfl ?_
  refine pw_aloadn (aX7_readToken 31 rfl) rfl ?_
  refine pw_getr (v := .int (FI 111 8)) (aX7_readToken 32 rfl) uf_RX7_38 un_RX7_38 rfl ?_
  refine pw_callV (Bs := [.int (FI 111 8)]) (rest := []) (aX7_readToken 33 rfl) um_RX7_57 ujX7_letter wc_RX7_57.2.2.2.2 (by decide) (by decide) rfl rfl (fun d => rX7_letter hkb (FI 111 8) n sl SH (h_up FI 111 7 (FI 111 8)) FL FR hok) (fun v1 n1 sl1 SH1 FI1 FL1 FR1 hok1 _ => ?_)
  show pw _ _ _ _ _ _ _ 68 _ [.int (v1)] _ _
  refine pw_istoren (L2 := [(1, .int (v1)), (0, .ref (base + 111))]) (aX7_readToken 34 rfl) rfl ?_
  refine pw_iloadn (aX7_readToken 35 rfl) rfl ?_
  refine pw_iconst (v := (-1 : Int32)) (aX7_readToken 36 rfl) rfl ?_
  refine pw_icne (tgt := 82) (aX7_readToken 37 rfl) (by decide) (fun b2 => ?_) (fun b2 => ?_)
  · skip
    refine pw_aloadn (aX7_readToken 38 rfl) rfl ?_
    refine pw_iconst (v := (2 : Int32)) (aX7_readToken 39 rfl) rfl ?_
    refine pw_putri (aX7_readToken 40 rfl) uf_RX7_44 (fun _ _ _ => rfl) (fun t4 => ?_)
    refine pw_goto (tgt := 128) (aX7_readToken 41 rfl) (by decide) ?_
    exact pw_vret (aX7_readToken 63 rfl) hok1
  · skip
    refine pw_iloadn (aX7_readToken 42 rfl) rfl ?_
    refine pw_cf (pw_callS (As := [.int (v1)]) (rest := []) (aX7_readToken 43 rfl) um_RX7_61 ujX7_isSmall wc_RX7_61.2.2.2.2 (by decide) rfl rfl (fun d => rX7_isSmall hkb (v1) n1 sl1 SH1 FI1 FL1 FR1 hok1) (fun v4 n4 sl4 SH4 FI4 FL4 FR4 _ hC => ?_))
    obtain ⟨rfl, hC⟩ := hC; cases hC
    show pw _ _ _ _ _ _ _ 86 _ [.int (fX7_isSmall (v1) SH1 FI1 FL1 FR1)] _ _
    refine pw_ifeq (tgt := 96) (aX7_readToken 44 rfl) (by decide) (fun b5 => ?_) (fun b5 => ?_)
    · skip
      refine pw_iloadn (aX7_readToken 48 rfl) rfl ?_
      refine pw_cf (pw_callS (As := [.int (v1)]) (rest := []) (aX7_readToken 49 rfl) um_RX7_68 ujX7_isDigit wc_RX7_68.2.2.2.2 (by decide) rfl rfl (fun d => rX7_isDigit hkb (v1) n1 sl1 SH1 FI1 FL1 FR1 hok1) (fun v6 n6 sl6 SH6 FI6 FL6 FR6 _ hC => ?_))
      obtain ⟨rfl, hC⟩ := hC; cases hC
      show pw _ _ _ _ _ _ _ 100 _ [.int (fX7_isDigit (v1) SH1 FI1 FL1 FR1)] _ _
      refine pw_ifeq (tgt := 110) (aX7_readToken 50 rfl) (by decide) (fun b7 => ?_) (fun b7 => ?_)
      · skip
        refine pw_iloadn (aX7_readToken 54 rfl) rfl ?_
        refine pw_bipush (v := (64 : Int32)) (aX7_readToken 55 rfl) rfl ?_
        refine pw_icne (tgt := 123) (aX7_readToken 56 rfl) (by decide) (fun b8 => ?_) (fun b8 => ?_)
        · skip
          refine pw_aloadn (aX7_readToken 57 rfl) rfl ?_
          refine pw_callV (Bs := []) (rest := []) (aX7_readToken 58 rfl) um_RX7_74 ujX7_readAt wc_RX7_74.2.2.2.2 (by decide) (by decide) rfl rfl (fun d => rX7_readAt hkb  n1 sl1 SH1 FI1 FL1 FR1 hok1) (fun v9 n9 sl9 SH9 FI9 FL9 FR9 hok9 _ => ?_)
          show pw _ _ _ _ _ _ _ 120 _ [] _ _
          refine pw_goto (tgt := 128) (aX7_readToken 59 rfl) (by decide) ?_
          exact pw_vret (aX7_readToken 63 rfl) hok9
        · skip
          refine pw_aloadn (aX7_readToken 60 rfl) rfl ?_
          refine pw_iloadn (aX7_readToken 61 rfl) rfl ?_
          refine pw_callV (Bs := [.int (v1)]) (rest := []) (aX7_readToken 62 rfl) um_RX7_77 ujX7_readSign wc_RX7_77.2.2.2.2 (by decide) (by decide) rfl rfl (fun d => rX7_readSign hkb (v1) n1 sl1 SH1 FI1 FL1 FR1 hok1) (fun v10 n10 sl10 SH10 FI10 FL10 FR10 hok10 _ => ?_)
          show pw _ _ _ _ _ _ _ 128 _ [] _ _
          exact pw_vret (aX7_readToken 63 rfl) hok10
      · skip
        refine pw_aloadn (aX7_readToken 51 rfl) rfl ?_
        refine pw_callV (Bs := []) (rest := []) (aX7_readToken 52 rfl) um_RX7_71 ujX7_readNumber wc_RX7_71.2.2.2.2 (by decide) (by decide) rfl rfl (fun d => rX7_readNumber hkb  n1 sl1 SH1 FI1 FL1 FR1 hok1) (fun v11 n11 sl11 SH11 FI11 FL11 FR11 hok11 _ => ?_)
        show pw _ _ _ _ _ _ _ 107 _ [] _ _
        refine pw_goto (tgt := 128) (aX7_readToken 53 rfl) (by decide) ?_
        exact pw_vret (aX7_readToken 63 rfl) hok11
    · skip
      refine pw_aloadn (aX7_readToken 45 rfl) rfl ?_
      refine pw_callV (Bs := []) (rest := []) (aX7_readToken 46 rfl) um_RX7_65 ujX7_readWord wc_RX7_65.2.2.2.2 (by decide) (by decide) rfl rfl (fun d => rX7_readWord hkb  n1 sl1 SH1 FI1 FL1 FR1 hok1) (fun v12 n12 sl12 SH12 FI12 FL12 FR12 hok12 _ => ?_)
      show pw _ _ _ _ _ _ _ 93 _ [] _ _
      refine pw_goto (tgt := 128) (aX7_readToken 47 rfl) (by decide) ?_
      exact pw_vret (aX7_readToken 63 rfl) hok12
def BX7_readToken_0 (K0 : Nat → Nat → (Nat → Nat × Nat) → (Nat → Nat → Int32) → (Nat → Nat → Int64) → (Nat → Nat → Option Nat) → Unit → hS → Prop)   (n sl : Nat) (SH : Nat → Nat × Nat) (FI : Nat → Nat → Int32) (FL : Nat → Nat → Int64) (FR : Nat → Nat → Option Nat) : Unit → hS → Prop := (P_if ((FI 111 8).toInt < (FI 111 6).toInt) (P_sm (FR 111 5) (fun c2 => P_and (p_in (FI 111 8) (SH c2).2) (P_if ((FI c2 (FI 111 8).toInt.toNat).toInt = ((10 : Int32)).toInt) (RX7_readToken_39 K0   n sl SH FI FL FR) (P_sm (FR 111 5) (fun c4 => P_and (p_in (FI 111 8) (SH c4).2) (P_if ((FI c4 (FI 111 8).toInt.toNat).toInt = ((32 : Int32)).toInt) (RX7_readToken_39 K0   n sl SH FI FL FR) (RX7_readToken_52    n sl SH FI FL FR))))))) (RX7_readToken_52    n sl SH FI FL FR))
set_option maxHeartbeats 4000000 in
set_option maxRecDepth 100000 in
theorem bX7_readToken_0 {sk : xK} {base N d : Nat} {K0 : Nat → Nat → (Nat → Nat × Nat) → (Nat → Nat → Int32) → (Nat → Nat → Int64) → (Nat → Nat → Option Nat) → Unit → hS → Prop} (hkb : x_kb sk base)    (n sl : Nat) (SH : Nat → Nat × Nat) (FI : Nat → Nat → Int32) (FL : Nat → Nat → Int64) (FR : Nat → Nat → Option Nat) (hok : pk n SH FR)  (hK0 : ∀  (n sl : Nat) (SH : Nat → Nat × Nat) (FI : Nat → Nat → Int32) (FL : Nat → Nat → Int64) (FR : Nat → Nat → Option Nat), pk n SH FR → pw pj_V sk base N d none 66 0 [(0, .ref (base + 111))] [] (n, sl, SH, FI, FL, FR) (K0  n sl SH FI FL FR)) : pw pj_V sk base (N + 1) d none 66 0 [(0, .ref (base + 111))] [] (n, sl, SH, FI, FL, FR) (BX7_readToken_0 K0   n sl SH FI FL FR) := by
  unfold BX7_readToken_0
  refine pd_aloadn (aX7_readToken 0 rfl) rfl ?_
  refine pw_getr (v := .int (FI 111 8)) (aX7_readToken 1 rfl) uf_RX7_38 un_RX7_38 rfl ?_
  refine pw_aloadn (aX7_readToken 2 rfl) rfl ?_
  refine pw_getr (v := .int (FI 111 6)) (aX7_readToken 3 rfl) uf_RX7_34 un_RX7_34 rfl ?_
  refine pw_icge (tgt := 52) (aX7_readToken 4 rfl) (by decide) (fun b0 => ?_) (fun b0 => ?_)
  · skip
    refine pw_aloadn (aX7_readToken 5 rfl) rfl ?_
    refine pw_getr (v := va_rf (h_rf base (FR 111 5))) (aX7_readToken 6 rfl) uf_RX7_25 un_RX7_25 rfl ?_
    refine pw_aloadn (aX7_readToken 7 rfl) rfl ?_
    refine pw_getr (v := .int (FI 111 8)) (aX7_readToken 8 rfl) uf_RX7_38 un_RX7_38 rfl ?_
    refine pw_iald (ix := (FI 111 8).toInt.toNat) (o := FR 111 5) (aX7_readToken 9 rfl) rfl (fun c2 hc2 _ gc2 => ?_)
    refine pw_bipush (v := (10 : Int32)) (aX7_readToken 10 rfl) rfl ?_
    refine pw_iceq (tgt := 39) (aX7_readToken 11 rfl) (by decide) (fun b2 => ?_) (fun b2 => ?_)
    · skip
      exact pw_Li (L2 := [(0, .ref (base + 111))]) [0] (rX7_readToken_39 hkb   n sl SH FI FL FR hok  hK0) ⟨rfl, trivial⟩
    · skip
      refine pw_aloadn (aX7_readToken 12 rfl) rfl ?_
      refine pw_getr (v := va_rf (h_rf base (FR 111 5))) (aX7_readToken 13 rfl) uf_RX7_25 un_RX7_25 rfl ?_
      refine pw_aloadn (aX7_readToken 14 rfl) rfl ?_
      refine pw_getr (v := .int (FI 111 8)) (aX7_readToken 15 rfl) uf_RX7_38 un_RX7_38 rfl ?_
      refine pw_iald (ix := (FI 111 8).toInt.toNat) (o := FR 111 5) (aX7_readToken 16 rfl) rfl (fun c4 hc4 _ gc4 => ?_)
      refine pw_bipush (v := (32 : Int32)) (aX7_readToken 17 rfl) rfl ?_
      refine pw_icne (tgt := 52) (aX7_readToken 18 rfl) (by decide) (fun b4 => ?_) (fun b4 => ?_)
      · skip
        exact pw_Li (L2 := [(0, .ref (base + 111))]) [0] (rX7_readToken_39 hkb   n sl SH FI FL FR hok  hK0) ⟨rfl, trivial⟩
      · skip
        exact pw_Li (L2 := [(0, .ref (base + 111))]) [0] (rX7_readToken_52 hkb   n sl SH FI FL FR hok  ) ⟨rfl, trivial⟩
  · skip
    exact pw_Li (L2 := [(0, .ref (base + 111))]) [0] (rX7_readToken_52 hkb   n sl SH FI FL FR hok  ) ⟨rfl, trivial⟩
def GX7_readToken_0   : Nat → Nat → Nat → (Nat → Nat × Nat) → (Nat → Nat → Int32) → (Nat → Nat → Int64) → (Nat → Nat → Option Nat) → Unit → hS → Prop
  | 0, _, _, _, _, _, _ => fun _ _ => False
  | g + 1, n, sl, SH, FI, FL, FR => BX7_readToken_0  (GX7_readToken_0   g)   n sl SH FI FL FR
def RX7_readToken_0    (n sl : Nat) (SH : Nat → Nat × Nat) (FI : Nat → Nat → Int32) (FL : Nat → Nat → Int64) (FR : Nat → Nat → Option Nat) : Unit → hS → Prop := fun v s => ∃ g, GX7_readToken_0   g  n sl SH FI FL FR v s
theorem gX7_readToken_0 {sk : xK} {base d : Nat}  (hkb : x_kb sk base)  (N : Nat) :  ∀   (n sl : Nat) (SH : Nat → Nat × Nat) (FI : Nat → Nat → Int32) (FL : Nat → Nat → Int64) (FR : Nat → Nat → Option Nat), pk n SH FR → pw pj_V sk base N d none 66 0 [(0, .ref (base + 111))] [] (n, sl, SH, FI, FL, FR) (GX7_readToken_0   (N + 1)  n sl SH FI FL FR) := by
  induction N with
  | zero => intros; exact pw_0
  | succ N ih => intro     n sl SH FI FL FR hok; exact bX7_readToken_0 hkb    n sl SH FI FL FR hok  (ih  )
theorem rX7_readToken_0 {sk : xK} {base N d : Nat}  (hkb : x_kb sk base)    (n sl : Nat) (SH : Nat → Nat × Nat) (FI : Nat → Nat → Int32) (FL : Nat → Nat → Int64) (FR : Nat → Nat → Option Nat) (hok : pk n SH FR)   : pw pj_V sk base N d none 66 0 [(0, .ref (base + 111))] [] (n, sl, SH, FI, FL, FR) (RX7_readToken_0    n sl SH FI FL FR) := pw_cons (gX7_readToken_0 hkb  N     n sl SH FI FL FR hok) (fun _ _ h => ⟨_, h⟩)
def RX7_readToken  (n sl : Nat) (SH : Nat → Nat × Nat) (FI : Nat → Nat → Int32) (FL : Nat → Nat → Int64) (FR : Nat → Nat → Option Nat) : Unit → hS → Prop := (RX7_readToken_0    n sl SH FI FL FR)
set_option maxHeartbeats 4000000 in
set_option maxRecDepth 100000 in
theorem rX7_readToken {sk : xK} {base N d : Nat} (hkb : x_kb sk base)  (n sl : Nat) (SH : Nat → Nat × Nat) (FI : Nat → Nat → Int32) (FL : Nat → Nat → Int64) (FR : Nat → Nat → Option Nat) (hok : pk n SH FR)  : pw pj_V sk base N d none 66 0 [(0, .ref (base + 111))] [] (n, sl, SH, FI, FL, FR) (RX7_readToken  n sl SH FI FL FR) := by
  unfold RX7_readToken
  exact pw_Li (L2 := [(0, .ref (base + 111))]) [0] (rX7_readToken_0 hkb   n sl SH FI FL FR hok  ) ⟨rfl, trivial⟩
def BX7_readAll_30 (K30 : Nat → Nat → (Nat → Nat × Nat) → (Nat → Nat → Int32) → (Nat → Nat → Int64) → (Nat → Nat → Option Nat) → Unit → hS → Prop) (a1 : Option Nat) (a2 : Int32)  (n sl : Nat) (SH : Nat → Nat × Nat) (FI : Nat → Nat → Int32) (FL : Nat → Nat → Int64) (FR : Nat → Nat → Option Nat) : Unit → hS → Prop := (P_if ((FI 111 4).toInt < (Int32.ofNat (SH 112).2).toInt) (P_if ((FI 111 9).toInt = ((2 : Int32)).toInt) (P_ret () (n, sl, SH, FI, FL, FR)) (P_if ((FI 111 9).toInt = ((3 : Int32)).toInt) (P_ret () (n, sl, SH, FI, FL, FR)) (P_bi (RX7_readToken  n sl SH FI FL FR) (fun v3 n3 sl3 SH3 FI3 FL3 FR3 => (P_and (p_in (FI3 111 4) (SH3 112).2) (P_and (p_in (FI3 111 4) (SH3 113).2) (P_and (p_in (FI3 111 4) (SH3 114).2) (P_and (p_in (FI3 111 4) (SH3 115).2) (K30  n3 sl3 SH3 (h_up (h_up (h_up (h_up FI3 112 (FI3 111 4).toInt.toNat (FI3 111 9)) 114 (FI3 111 4).toInt.toNat (FI3 111 7)) 115 (FI3 111 4).toInt.toNat (FI3 111 8)) 111 4 ((FI3 111 4) + ((1 : Int32)))) (h_up FL3 113 (FI3 111 4).toInt.toNat (FL3 111 10)) FR3))))))))) (P_ret () (n, sl, SH, FI, FL, FR)))
set_option maxHeartbeats 4000000 in
set_option maxRecDepth 100000 in
theorem bX7_readAll_30 {sk : xK} {base N d : Nat} {K30 : Nat → Nat → (Nat → Nat × Nat) → (Nat → Nat → Int32) → (Nat → Nat → Int64) → (Nat → Nat → Option Nat) → Unit → hS → Prop} (hkb : x_kb sk base) (a1 : Option Nat) (a2 : Int32)   (n sl : Nat) (SH : Nat → Nat × Nat) (FI : Nat → Nat → Int32) (FL : Nat → Nat → Int64) (FR : Nat → Nat → Option Nat) (hok : pk n SH FR)  (hK30 : ∀  (n sl : Nat) (SH : Nat → Nat × Nat) (FI : Nat → Nat → Int32) (FL : Nat → Nat → Int64) (FR : Nat → Nat → Option Nat), pk n SH FR → pw pj_V sk base N d none 65 30 [(0, .ref (base + 111)), (1, va_rf (h_rf base (a1))), (2, .int (a2))] [] (n, sl, SH, FI, FL, FR) (K30  n sl SH FI FL FR)) : pw pj_V sk base (N + 1) d none 65 30 [(0, .ref (base + 111)), (1, va_rf (h_rf base (a1))), (2, .int (a2))] [] (n, sl, SH, FI, FL, FR) (BX7_readAll_30 K30 a1 a2  n sl SH FI FL FR) := by
  unfold BX7_readAll_30
  refine pd_aloadn (aX7_readAll 18 rfl) rfl ?_
  refine pw_getr (v := .int (FI 111 4)) (aX7_readAll 19 rfl) uf_RX7_41 un_RX7_41 rfl ?_
  refine pw_aloadn (aX7_readAll 20 rfl) rfl ?_
  refine pw_getr (v := .ref (base + 112)) (aX7_readAll 21 rfl) uf_RX7_9 un_RX7_9 (congrArg (fun r => va_rf (h_rf base r)) (q111_0 (hok).2.1)) ?_
  refine pw_alenr hkb (c := 112) (aX7_readAll 22 rfl) ?_
  refine pw_icge (tgt := 127) (aX7_readAll 23 rfl) (by decide) (fun b0 => ?_) (fun b0 => ?_)
  · skip
    refine pw_aloadn (aX7_readAll 24 rfl) rfl ?_
    refine pw_getr (v := .int (FI 111 9)) (aX7_readAll 25 rfl) uf_RX7_44 un_RX7_44 rfl ?_
    refine pw_iconst (v := (2 : Int32)) (aX7_readAll 26 rfl) rfl ?_
    refine pw_iceq (tgt := 127) (aX7_readAll 27 rfl) (by decide) (fun b1 => ?_) (fun b1 => ?_)
    · skip
      exact pw_vret (aX7_readAll 69 rfl) hok
    · skip
      refine pw_aloadn (aX7_readAll 28 rfl) rfl ?_
      refine pw_getr (v := .int (FI 111 9)) (aX7_readAll 29 rfl) uf_RX7_44 un_RX7_44 rfl ?_
      refine pw_iconst (v := (3 : Int32)) (aX7_readAll 30 rfl) rfl ?_
      refine pw_iceq (tgt := 127) (aX7_readAll 31 rfl) (by decide) (fun b2 => ?_) (fun b2 => ?_)
      · skip
        exact pw_vret (aX7_readAll 69 rfl) hok
      · skip
        refine pw_aloadn (aX7_readAll 32 rfl) rfl ?_
        refine pw_callV (Bs := []) (rest := []) (aX7_readAll 33 rfl) um_RX7_47 ujX7_readToken wc_RX7_47.2.2.2.2 (by decide) (by decide) rfl rfl (fun d => rX7_readToken hkb  n sl SH FI FL FR hok) (fun v3 n3 sl3 SH3 FI3 FL3 FR3 hok3 _ => ?_)
        show pw _ _ _ _ _ _ _ 62 _ [] _ _
        refine pw_aloadn (aX7_readAll 34 rfl) rfl ?_
        refine pw_getr (v := .ref (base + 112)) (aX7_readAll 35 rfl) uf_RX7_9 un_RX7_9 (congrArg (fun r => va_rf (h_rf base r)) (q111_0 (hok3).2.1)) ?_
        refine pw_aloadn (aX7_readAll 36 rfl) rfl ?_
        refine pw_getr (v := .int (FI3 111 4)) (aX7_readAll 37 rfl) uf_RX7_41 un_RX7_41 rfl ?_
        refine pw_aloadn (aX7_readAll 38 rfl) rfl ?_
        refine pw_getr (v := .int (FI3 111 9)) (aX7_readAll 39 rfl) uf_RX7_44 un_RX7_44 rfl ?_
        refine pw_iastr (c := 112) (ix := (FI3 111 4).toInt.toNat) (aX7_readAll 40 rfl) rfl (fun _ => ?_)
        refine pw_aloadn (aX7_readAll 41 rfl) rfl ?_
        refine pw_getr (v := .ref (base + 113)) (aX7_readAll 42 rfl) uf_RX7_15 un_RX7_15 (congrArg (fun r => va_rf (h_rf base r)) (q111_1 (hok3).2.1)) ?_
        refine pw_aloadn (aX7_readAll 43 rfl) rfl ?_
        refine pw_getr (v := .int (FI3 111 4)) (aX7_readAll 44 rfl) uf_RX7_41 un_RX7_41 rfl ?_
        refine pw_aloadn (aX7_readAll 45 rfl) rfl ?_
        refine pw_getr (v := .long (FL3 111 10)) (aX7_readAll 46 rfl) uf_RX7_50 un_RX7_50 rfl ?_
        refine pw_lastr (c := 113) (ix := (FI3 111 4).toInt.toNat) (aX7_readAll 47 rfl) rfl (fun _ => ?_)
        refine pw_aloadn (aX7_readAll 48 rfl) rfl ?_
        refine pw_getr (v := .ref (base + 114)) (aX7_readAll 49 rfl) uf_RX7_19 un_RX7_19 (congrArg (fun r => va_rf (h_rf base r)) (q111_2 (hok3).2.1)) ?_
        refine pw_aloadn (aX7_readAll 50 rfl) rfl ?_
        refine pw_getr (v := .int (FI3 111 4)) (aX7_readAll 51 rfl) uf_RX7_41 un_RX7_41 rfl ?_
        refine pw_aloadn (aX7_readAll 52 rfl) rfl ?_
        refine pw_getr (v := .int (FI3 111 7)) (aX7_readAll 53 rfl) uf_RX7_54 un_RX7_54 rfl ?_
        refine pw_iastr (c := 114) (ix := (FI3 111 4).toInt.toNat) (aX7_readAll 54 rfl) rfl (fun _ => ?_)
        refine pw_aloadn (aX7_readAll 55 rfl) rfl ?_
        refine pw_getr (v := .ref (base + 115)) (aX7_readAll 56 rfl) uf_RX7_22 un_RX7_22 (congrArg (fun r => va_rf (h_rf base r)) (q111_3 (hok3).2.1)) ?_
        refine pw_aloadn (aX7_readAll 57 rfl) rfl ?_
        refine pw_getr (v := .int (FI3 111 4)) (aX7_readAll 58 rfl) uf_RX7_41 un_RX7_41 rfl ?_
        refine pw_aloadn (aX7_readAll 59 rfl) rfl ?_
        refine pw_getr (v := .int (FI3 111 8)) (aX7_readAll 60 rfl) uf_RX7_38 un_RX7_38 rfl ?_
        refine pw_iastr (c := 115) (ix := (FI3 111 4).toInt.toNat) (aX7_readAll 61 rfl) rfl (fun _ => ?_)
        refine pw_aloadn (aX7_readAll 62 rfl) rfl ?_
        refine pw_dup (aX7_readAll 63 rfl) ?_
        refine pw_getr (v := .int (FI3 111 4)) (aX7_readAll 64 rfl) uf_RX7_41 un_RX7_41 rfl ?_
        refine pw_iconst (v := (1 : Int32)) (aX7_readAll 65 rfl) rfl ?_
        refine pw_iadd (aX7_readAll 66 rfl) ?_
        refine pw_putri (aX7_readAll 67 rfl) uf_RX7_41 (fun _ _ _ => rfl) (fun t5 => ?_)
        refine pw_goto (tgt := 30) (aX7_readAll 68 rfl) (by decide) ?_
        exact pw_Li (L2 := [(0, .ref (base + 111)), (1, va_rf (h_rf base (a1))), (2, .int (a2))]) [0, 1, 2] (hK30  n3 sl3 SH3 (h_up (h_up (h_up (h_up FI3 112 (FI3 111 4).toInt.toNat (FI3 111 9)) 114 (FI3 111 4).toInt.toNat (FI3 111 7)) 115 (FI3 111 4).toInt.toNat (FI3 111 8)) 111 4 ((FI3 111 4) + ((1 : Int32)))) (h_up FL3 113 (FI3 111 4).toInt.toNat (FL3 111 10)) FR3 hok3) ⟨rfl, rfl, rfl, trivial⟩
  · skip
    exact pw_vret (aX7_readAll 69 rfl) hok
def GX7_readAll_30  (a1 : Option Nat) (a2 : Int32) : Nat → Nat → Nat → (Nat → Nat × Nat) → (Nat → Nat → Int32) → (Nat → Nat → Int64) → (Nat → Nat → Option Nat) → Unit → hS → Prop
  | 0, _, _, _, _, _, _ => fun _ _ => False
  | g + 1, n, sl, SH, FI, FL, FR => BX7_readAll_30  (GX7_readAll_30  a1 a2 g) a1 a2  n sl SH FI FL FR
def RX7_readAll_30  (a1 : Option Nat) (a2 : Int32)  (n sl : Nat) (SH : Nat → Nat × Nat) (FI : Nat → Nat → Int32) (FL : Nat → Nat → Int64) (FR : Nat → Nat → Option Nat) : Unit → hS → Prop := fun v s => ∃ g, GX7_readAll_30  a1 a2 g  n sl SH FI FL FR v s
theorem gX7_readAll_30 {sk : xK} {base d : Nat}  (hkb : x_kb sk base) (a1 : Option Nat) (a2 : Int32) (N : Nat) :  ∀   (n sl : Nat) (SH : Nat → Nat × Nat) (FI : Nat → Nat → Int32) (FL : Nat → Nat → Int64) (FR : Nat → Nat → Option Nat), pk n SH FR → pw pj_V sk base N d none 65 30 [(0, .ref (base + 111)), (1, va_rf (h_rf base (a1))), (2, .int (a2))] [] (n, sl, SH, FI, FL, FR) (GX7_readAll_30  a1 a2 (N + 1)  n sl SH FI FL FR) := by
  induction N with
  | zero => intros; exact pw_0
  | succ N ih => intro     n sl SH FI FL FR hok; exact bX7_readAll_30 hkb a1 a2   n sl SH FI FL FR hok  (ih  )
theorem rX7_readAll_30 {sk : xK} {base N d : Nat}  (hkb : x_kb sk base) (a1 : Option Nat) (a2 : Int32)   (n sl : Nat) (SH : Nat → Nat × Nat) (FI : Nat → Nat → Int32) (FL : Nat → Nat → Int64) (FR : Nat → Nat → Option Nat) (hok : pk n SH FR)   : pw pj_V sk base N d none 65 30 [(0, .ref (base + 111)), (1, va_rf (h_rf base (a1))), (2, .int (a2))] [] (n, sl, SH, FI, FL, FR) (RX7_readAll_30  a1 a2  n sl SH FI FL FR) := pw_cons (gX7_readAll_30 hkb a1 a2 N     n sl SH FI FL FR hok) (fun _ _ h => ⟨_, h⟩)
def RX7_readAll (a1 : Option Nat) (a2 : Int32) (n sl : Nat) (SH : Nat → Nat × Nat) (FI : Nat → Nat → Int32) (FL : Nat → Nat → Int64) (FR : Nat → Nat → Option Nat) : Unit → hS → Prop := (P_sm (a1) (fun c2 => (RX7_readAll_30  a1 a2  n sl SH (h_up (h_up (h_up (h_up FI 111 6 (fJ9_min_7cf53 (a2) (Int32.ofNat (SH c2).2) SH FI FL (h_up FR 111 5 (a1)))) 111 8 ((0 : Int32))) 111 4 ((0 : Int32))) 111 9 ((1 : Int32))) FL (h_up FR 111 5 (a1)))))
set_option maxHeartbeats 4000000 in
set_option maxRecDepth 100000 in
theorem rX7_readAll {sk : xK} {base N d : Nat} (hkb : x_kb sk base) (a1 : Option Nat) (a2 : Int32) (n sl : Nat) (SH : Nat → Nat × Nat) (FI : Nat → Nat → Int32) (FL : Nat → Nat → Int64) (FR : Nat → Nat → Option Nat) (hok : pk n SH FR)  : pw pj_V sk base N d none 65 0 [(0, .ref (base + 111)), (1, va_rf (h_rf base (a1))), (2, .int (a2))] [] (n, sl, SH, FI, FL, FR) (RX7_readAll a1 a2 n sl SH FI FL FR) := by
  unfold RX7_readAll
  refine pw_aloadn (aX7_readAll 0 rfl) rfl ?_
  refine pw_aloadn (aX7_readAll 1 rfl) rfl ?_
  refine pw_putrr (p := a1) (aX7_readAll 2 rfl) uf_RX7_25 (fun _ _ _ => rfl) (fun t1 => ?_)
  refine pw_aloadn (aX7_readAll 3 rfl) rfl ?_
  refine pw_iloadn (aX7_readAll 4 rfl) rfl ?_
  refine pw_aloadn (aX7_readAll 5 rfl) rfl ?_
  refine pw_alen hkb (o := a1) (aX7_readAll 6 rfl) (fun c2 hc2 _ => ?_)
  refine pw_cf (pw_callS (As := [.int (a2), .int (Int32.ofNat (SH c2).2)]) (rest := [.ref (base + 111)]) (aX7_readAll 7 rfl) um_RX7_28 ujJ9_min_7cf53 wc_RX7_28.2.2.2.2 (by decide) rfl rfl (fun d => rJ9_min_7cf53 hkb (a2) (Int32.ofNat (SH c2).2) n sl SH FI FL (h_up FR 111 5 (a1)) (pk_w hok (by decide))) (fun v2 n2 sl2 SH2 FI2 FL2 FR2 _ hC => ?_))
  obtain ⟨rfl, hC⟩ := hC; cases hC
  show pw _ _ _ _ _ _ _ 12 _ [.int (fJ9_min_7cf53 (a2) (Int32.ofNat (SH c2).2) SH FI FL (h_up FR 111 5 (a1))), .ref (base + 111)] _ _
  refine pw_putri (aX7_readAll 8 rfl) uf_RX7_34 (fun _ _ _ => rfl) (fun t4 => ?_)
  refine pw_aloadn (aX7_readAll 9 rfl) rfl ?_
  refine pw_iconst (v := (0 : Int32)) (aX7_readAll 10 rfl) rfl ?_
  refine pw_putri (aX7_readAll 11 rfl) uf_RX7_38 (fun _ _ _ => rfl) (fun t5 => ?_)
  refine pw_aloadn (aX7_readAll 12 rfl) rfl ?_
  refine pw_iconst (v := (0 : Int32)) (aX7_readAll 13 rfl) rfl ?_
  refine pw_putri (aX7_readAll 14 rfl) uf_RX7_41 (fun _ _ _ => rfl) (fun t6 => ?_)
  refine pw_aloadn (aX7_readAll 15 rfl) rfl ?_
  refine pw_iconst (v := (1 : Int32)) (aX7_readAll 16 rfl) rfl ?_
  refine pw_putri (aX7_readAll 17 rfl) uf_RX7_44 (fun _ _ _ => rfl) (fun t7 => ?_)
  exact pw_Li (L2 := [(0, .ref (base + 111)), (1, va_rf (h_rf base (a1))), (2, .int (a2))]) [0, 1, 2] (rX7_readAll_30 hkb a1 a2  n sl SH (h_up (h_up (h_up (h_up FI 111 6 (fJ9_min_7cf53 (a2) (Int32.ofNat (SH c2).2) SH FI FL (h_up FR 111 5 (a1)))) 111 8 ((0 : Int32))) 111 4 ((0 : Int32))) 111 9 ((1 : Int32))) FL (h_up FR 111 5 (a1)) (pk_w hok (by decide))  ) ⟨rfl, rfl, rfl, trivial⟩
