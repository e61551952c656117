set_option maxHeartbeats 4000000 in
set_option maxRecDepth 100000 in
theorem rX4_take {sk : xK} {base N d : Nat} (hkb : x_kb sk base)  (n sl : Nat) (SH : Nat → Nat × Nat) (FI : Nat → Nat → Int32) (FL : Nat → Nat → Int64) (FR : Nat → Nat → Option Nat) (hok : pk n SH FR)  : pw pj_V sk base N d none 38 0 [(0, .ref (base + 110))] [] (n, sl, SH, FI, FL, FR) (RX4_take  n sl SH FI FL FR) := by
  unfold RX4_take
  refine pw_aloadn (aX4_take 0 rfl) rfl ?_
  refine pw_getr (v := .int (FI 110 5)) (aX4_take 1 rfl) uf_RX4_39 un_RX4_39 rfl ?_
  refine pw_ifne (tgt := 65) (aX4_take 2 rfl) (by decide) (fun b0 => ?_) (fun b0 => ?_)
  · skip
    refine pw_aloadn (aX4_take 3 rfl) rfl ?_
    refine pw_getr (v := .int (FI 110 7)) (aX4_take 4 rfl) uf_RX4_45 un_RX4_45 rfl ?_
    refine pw_iconst (v := (1 : Int32)) (aX4_take 5 rfl) rfl ?_
    refine pw_iadd (aX4_take 6 rfl) ?_
    refine pw_aloadn (aX4_take 7 rfl) rfl ?_
    refine pw_getr (v := .ref (base + 111)) (aX4_take 8 rfl) uf_RX4_12 un_RX4_12 (congrArg (fun r => va_rf (h_rf base r)) (q110_0 (hok).2.1)) ?_
    refine pw_getr (v := .int (FI 111 4)) (aX4_take 9 rfl) uf_RX4_54 un_RX4_54 rfl ?_
    refine pw_icge (tgt := 65) (aX4_take 10 rfl) (by decide) (fun b1 => ?_) (fun b1 => ?_)
    · skip
      refine pw_aloadn (aX4_take 11 rfl) rfl ?_
      refine pw_dup (aX4_take 12 rfl) ?_
      refine pw_getr (v := .int (FI 110 7)) (aX4_take 13 rfl) uf_RX4_45 un_RX4_45 rfl ?_
      refine pw_iconst (v := (1 : Int32)) (aX4_take 14 rfl) rfl ?_
      refine pw_iadd (aX4_take 15 rfl) ?_
      refine pw_putri (aX4_take 16 rfl) uf_RX4_45 (fun _ _ _ => rfl) (fun t3 => ?_)
      refine pw_aloadn (aX4_take 17 rfl) rfl ?_
      refine pw_aloadn (aX4_take 18 rfl) rfl ?_
      refine pw_getr (v := .ref (base + 111)) (aX4_take 19 rfl) uf_RX4_12 un_RX4_12 (congrArg (fun r => va_rf (h_rf base r)) (q110_0 (hok).2.1)) ?_
      refine pw_getr (v := .ref (base + 112)) (aX4_take 20 rfl) uf_RX4_55 un_RX4_55 (congrArg (fun r => va_rf (h_rf base r)) (q111_0 (hok).2.1)) ?_
      refine pw_aloadn (aX4_take 21 rfl) rfl ?_
      refine pw_getr (v := .int ((FI 110 7) + ((1 : Int32)))) (aX4_take 22 rfl) uf_RX4_45 un_RX4_45 rfl ?_
      refine pw_ialdr (c := 112) (ix := ((FI 110 7) + ((1 : Int32))).toInt.toNat) (aX4_take 23 rfl) rfl (fun _ => ?_)
      refine pw_putri (aX4_take 24 rfl) uf_RX4_51 (fun _ _ _ => rfl) (fun t4 => ?_)
      refine pw_aloadn (aX4_take 25 rfl) rfl ?_
      refine pw_aloadn (aX4_take 26 rfl) rfl ?_
      refine pw_getr (v := .ref (base + 111)) (aX4_take 27 rfl) uf_RX4_12 un_RX4_12 (congrArg (fun r => va_rf (h_rf base r)) (q110_0 (hok).2.1)) ?_
      refine pw_getr (v := .ref (base + 113)) (aX4_take 28 rfl) uf_RX4_58 un_RX4_58 (congrArg (fun r => va_rf (h_rf base r)) (q111_1 (hok).2.1)) ?_
      refine pw_aloadn (aX4_take 29 rfl) rfl ?_
      refine pw_getr (v := .int ((FI 110 7) + ((1 : Int32)))) (aX4_take 30 rfl) uf_RX4_45 un_RX4_45 rfl ?_
      refine pw_laldr (c := 113) (ix := ((FI 110 7) + ((1 : Int32))).toInt.toNat) (aX4_take 31 rfl) rfl (fun _ => ?_)
      refine pw_putrl (aX4_take 32 rfl) uf_RX4_62 (fun _ _ _ => rfl) (fun t5 => ?_)
      exact pw_vret (aX4_take 33 rfl) hok
    · skip
      exact pw_vret (aX4_take 33 rfl) hok
  · skip
    exact pw_vret (aX4_take 33 rfl) hok
set_option maxHeartbeats 4000000 in
set_option maxRecDepth 100000 in
theorem rX4_refuse {sk : xK} {base N d : Nat} (hkb : x_kb sk base) (a1 : Int32) (n sl : Nat) (SH : Nat → Nat × Nat) (FI : Nat → Nat → Int32) (FL : Nat → Nat → Int64) (FR : Nat → Nat → Option Nat) (hok : pk n SH FR)  : pw pj_V sk base N d none 39 0 [(0, .ref (base + 110)), (1, .int (a1))] [] (n, sl, SH, FI, FL, FR) (RX4_refuse a1 n sl SH FI FL FR) := by
  unfold RX4_refuse
  refine pw_aloadn (aX4_refuse 0 rfl) rfl ?_
  refine pw_getr (v := .int (FI 110 5)) (aX4_refuse 1 rfl) uf_RX4_39 un_RX4_39 rfl ?_
  refine pw_ifne (tgt := 54) (aX4_refuse 2 rfl) (by decide) (fun b0 => ?_) (fun b0 => ?_)
  · skip
    refine pw_aloadn (aX4_refuse 3 rfl) rfl ?_
    refine pw_getr (v := .int (FI 110 7)) (aX4_refuse 4 rfl) uf_RX4_45 un_RX4_45 rfl ?_
    refine pw_iflt (tgt := 54) (aX4_refuse 5 rfl) (by decide) (fun b1 => ?_) (fun b1 => ?_)
    · skip
      exact pw_vret (aX4_refuse 26 rfl) hok
    · skip
      refine pw_aloadn (aX4_refuse 6 rfl) rfl ?_
      refine pw_getr (v := .int (FI 110 7)) (aX4_refuse 7 rfl) uf_RX4_45 un_RX4_45 rfl ?_
      refine pw_aloadn (aX4_refuse 8 rfl) rfl ?_
      refine pw_getr (v := .ref (base + 111)) (aX4_refuse 9 rfl) uf_RX4_12 un_RX4_12 (congrArg (fun r => va_rf (h_rf base r)) (q110_0 (hok).2.1)) ?_
      refine pw_getr (v := .int (FI 111 4)) (aX4_refuse 10 rfl) uf_RX4_54 un_RX4_54 rfl ?_
      refine pw_icge (tgt := 54) (aX4_refuse 11 rfl) (by decide) (fun b2 => ?_) (fun b2 => ?_)
      · skip
        refine pw_aloadn (aX4_refuse 12 rfl) rfl ?_
        refine pw_iloadn (aX4_refuse 13 rfl) rfl ?_
        refine pw_putri (aX4_refuse 14 rfl) uf_RX4_39 (fun _ _ _ => rfl) (fun t4 => ?_)
        refine pw_aloadn (aX4_refuse 15 rfl) rfl ?_
        refine pw_aloadn (aX4_refuse 16 rfl) rfl ?_
        refine pw_getr (v := .ref (base + 111)) (aX4_refuse 17 rfl) uf_RX4_12 un_RX4_12 (congrArg (fun r => va_rf (h_rf base r)) (q110_0 (hok).2.1)) ?_
        refine pw_getr (v := .ref (base + 114)) (aX4_refuse 18 rfl) uf_RX4_66 un_RX4_66 (congrArg (fun r => va_rf (h_rf base r)) (q111_2 (hok).2.1)) ?_
        refine pw_aloadn (aX4_refuse 19 rfl) rfl ?_
        refine pw_getr (v := .int (FI 110 7)) (aX4_refuse 20 rfl) uf_RX4_45 un_RX4_45 rfl ?_
        refine pw_ialdr (c := 114) (ix := (FI 110 7).toInt.toNat) (aX4_refuse 21 rfl) rfl (fun _ => ?_)
        refine pw_putri (aX4_refuse 22 rfl) uf_RX4_42 (fun _ _ _ => rfl) (fun t5 => ?_)
        refine pw_aloadn (aX4_refuse 23 rfl) rfl ?_
        refine pw_iconst (v := (1 : Int32)) (aX4_refuse 24 rfl) rfl ?_
        refine pw_putri (aX4_refuse 25 rfl) uf_RX4_51 (fun _ _ _ => rfl) (fun t6 => ?_)
        exact pw_vret (aX4_refuse 26 rfl) hok
      · skip
        exact pw_vret (aX4_refuse 26 rfl) hok
  · skip
    exact pw_vret (aX4_refuse 26 rfl) hok
set_option maxHeartbeats 4000000 in
set_option maxRecDepth 100000 in
theorem rX4_expect {sk : xK} {base N d : Nat} (hkb : x_kb sk base) (a1 : Int32) (n sl : Nat) (SH : Nat → Nat × Nat) (FI : Nat → Nat → Int32) (FL : Nat → Nat → Int64) (FR : Nat → Nat → Option Nat) (hok : pk n SH FR)  : pw pj_V sk base N d none 40 0 [(0, .ref (base + 110)), (1, .int (a1))] [] (n, sl, SH, FI, FL, FR) (RX4_expect a1 n sl SH FI FL FR) := by
  unfold RX4_expect
  refine pw_aloadn (aX4_expect 0 rfl) rfl ?_
  refine pw_getr (v := .int (FI 110 8)) (aX4_expect 1 rfl) uf_RX4_51 un_RX4_51 rfl ?_
  refine pw_iloadn (aX4_expect 2 rfl) rfl ?_
  refine pw_icne (tgt := 15) (aX4_expect 3 rfl) (by decide) (fun b0 => ?_) (fun b0 => ?_)
  · skip
    refine pw_aloadn (aX4_expect 4 rfl) rfl ?_
    refine pw_callV (Bs := []) (rest := []) (aX4_expect 5 rfl) um_RX4_48 ujX4_take wc_RX4_48.2.2.2.2 (by decide) (by decide) rfl rfl (fun d => rX4_take hkb  n sl SH FI FL FR hok) (fun v1 n1 sl1 SH1 FI1 FL1 FR1 hok1 _ => ?_)
    show pw _ _ _ _ _ _ _ 12 _ [] _ _
    refine pw_goto (tgt := 20) (aX4_expect 6 rfl) (by decide) ?_
    exact pw_vret (aX4_expect 10 rfl) hok1
  · skip
    refine pw_aloadn (aX4_expect 7 rfl) rfl ?_
    refine pw_iconst (v := (1 : Int32)) (aX4_expect 8 rfl) rfl ?_
    refine pw_callV (Bs := [.int ((1 : Int32))]) (rest := []) (aX4_expect 9 rfl) um_RX4_69 ujX4_refuse wc_RX4_69.2.2.2.2 (by decide) (by decide) rfl rfl (fun d => rX4_refuse hkb ((1 : Int32)) n sl SH FI FL FR hok) (fun v2 n2 sl2 SH2 FI2 FL2 FR2 hok2 _ => ?_)
    show pw _ _ _ _ _ _ _ 20 _ [] _ _
    exact pw_vret (aX4_expect 10 rfl) hok2
set_option maxHeartbeats 4000000 in
set_option maxRecDepth 100000 in
theorem rX4_raise {sk : xK} {base N d : Nat} (hkb : x_kb sk base)  (n sl : Nat) (SH : Nat → Nat × Nat) (FI : Nat → Nat → Int32) (FL : Nat → Nat → Int64) (FR : Nat → Nat → Option Nat) (hok : pk n SH FR)  : pw pj_I sk base N d none 41 0 [(0, .ref (base + 110))] [] (n, sl, SH, FI, FL, FR) (RX4_raise  n sl SH FI FL FR) := by
  unfold RX4_raise
  refine pw_aloadn (aX4_raise 0 rfl) rfl ?_
  refine pw_getr (v := .int (FI 110 4)) (aX4_raise 1 rfl) uf_RX4_36 un_RX4_36 rfl ?_
  refine pw_bipush (v := (12 : Int32)) (aX4_raise 2 rfl) rfl ?_
  refine pw_iclt (tgt := 16) (aX4_raise 3 rfl) (by decide) (fun b0 => ?_) (fun b0 => ?_)
  · skip
    refine pw_aloadn (aX4_raise 9 rfl) rfl ?_
    refine pw_dup (aX4_raise 10 rfl) ?_
    refine pw_getr (v := .int (FI 110 4)) (aX4_raise 11 rfl) uf_RX4_36 un_RX4_36 rfl ?_
    refine pw_iconst (v := (1 : Int32)) (aX4_raise 12 rfl) rfl ?_
    refine pw_iadd (aX4_raise 13 rfl) ?_
    refine pw_putri (aX4_raise 14 rfl) uf_RX4_36 (fun _ _ _ => rfl) (fun t2 => ?_)
    refine pw_iconst (v := (1 : Int32)) (aX4_raise 15 rfl) rfl ?_
    exact pw_iret (aX4_raise 16 rfl) hok
  · skip
    refine pw_aloadn (aX4_raise 4 rfl) rfl ?_
    refine pw_iconst (v := (5 : Int32)) (aX4_raise 5 rfl) rfl ?_
    refine pw_callV (Bs := [.int ((5 : Int32))]) (rest := []) (aX4_raise 6 rfl) um_RX4_69 ujX4_refuse wc_RX4_69.2.2.2.2 (by decide) (by decide) rfl rfl (fun d => rX4_refuse hkb ((5 : Int32)) n sl SH FI FL FR hok) (fun v2 n2 sl2 SH2 FI2 FL2 FR2 hok2 _ => ?_)
    show pw _ _ _ _ _ _ _ 14 _ [] _ _
    refine pw_iconst (v := (0 : Int32)) (aX4_raise 7 rfl) rfl ?_
    exact pw_iret (aX4_raise 8 rfl) hok2
set_option maxHeartbeats 4000000 in
set_option maxRecDepth 100000 in
theorem rX4_goesOn {sk : xK} {base N d : Nat} (hkb : x_kb sk base)  (n sl : Nat) (SH : Nat → Nat × Nat) (FI : Nat → Nat → Int32) (FL : Nat → Nat → Int64) (FR : Nat → Nat → Option Nat) (hok : pk n SH FR)  : pw pj_I sk base N d none 37 0 [(0, .ref (base + 110))] [] (n, sl, SH, FI, FL, FR) (P_ret (fX4_goesOn  SH FI FL FR) (n, sl, SH, FI, FL, FR)) := by
  unfold fX4_goesOn
  refine pw_aloadn (aX4_goesOn 0 rfl) rfl ?_
  refine pw_getr (v := .int (FI 110 5)) (aX4_goesOn 1 rfl) uf_RX4_39 un_RX4_39 rfl ?_
  refine pw_ite (pw_ifne (tgt := 19) (aX4_goesOn 2 rfl) (by decide) (fun b0 => ?_) (fun b0 => ?_))
  · skip
    refine pw_aloadn (aX4_goesOn 3 rfl) rfl ?_
    refine pw_getr (v := .int (FI 110 8)) (aX4_goesOn 4 rfl) uf_RX4_51 un_RX4_51 rfl ?_
    refine pw_iconst (v := (2 : Int32)) (aX4_goesOn 5 rfl) rfl ?_
    refine pw_ite (pw_iceq (tgt := 19) (aX4_goesOn 6 rfl) (by decide) (fun b1 => ?_) (fun b1 => ?_))
    · skip
      refine pw_iconst (v := (0 : Int32)) (aX4_goesOn 9 rfl) rfl ?_
      exact pw_iret (aX4_goesOn 10 rfl) hok
    · skip
      refine pw_iconst (v := (1 : Int32)) (aX4_goesOn 7 rfl) rfl ?_
      refine pw_goto (tgt := 20) (aX4_goesOn 8 rfl) (by decide) ?_
      exact pw_iret (aX4_goesOn 10 rfl) hok
  · skip
    refine pw_iconst (v := (0 : Int32)) (aX4_goesOn 9 rfl) rfl ?_
    exact pw_iret (aX4_goesOn 10 rfl) hok
set_option maxHeartbeats 4000000 in
set_option maxRecDepth 100000 in
theorem rX4_levelOf {sk : xK} {base N d : Nat} (hkb : x_kb sk base) (a1 : Int32) (n sl : Nat) (SH : Nat → Nat × Nat) (FI : Nat → Nat → Int32) (FL : Nat → Nat → Int64) (FR : Nat → Nat → Option Nat) (hok : pk n SH FR)  : pw pj_I sk base N d none 55 0 [(0, .int (a1))] [] (n, sl, SH, FI, FL, FR) (P_ret (fX4_levelOf a1 SH FI FL FR) (n, sl, SH, FI, FL, FR)) := by
  unfold fX4_levelOf
  refine pw_iloadn (aX4_levelOf 0 rfl) rfl ?_
  refine pw_lsw aX4_levelOf_1 (fun tg ht => ?_)
  refine pw_ite (pw_case ((a1).toInt = 15 ∨ (a1).toInt = 16 ∨ (a1).toInt = 42) (fun b1 => ?_) (fun b1 => ?_))
  · have et : tg = 160 := by
      rcases b1 with h9 | h9 | h9
      · have e9 : Jvm.Op.lookupswitch.offset [(15, 159), (16, 159), (18, 153), (19, 153), (20, 153), (21, 153), (22, 155), (23, 155), (24, 155), (38, 151), (42, 159), (43, 157), (45, 157), (60, 153), (62, 153), (94, 149), (124, 147)] (162) (15) = 159 := (by decide); rw [h9, e9] at ht; omega
      · have e9 : Jvm.Op.lookupswitch.offset [(15, 159), (16, 159), (18, 153), (19, 153), (20, 153), (21, 153), (22, 155), (23, 155), (24, 155), (38, 151), (42, 159), (43, 157), (45, 157), (60, 153), (62, 153), (94, 149), (124, 147)] (162) (16) = 159 := (by decide); rw [h9, e9] at ht; omega
      · have e9 : Jvm.Op.lookupswitch.offset [(15, 159), (16, 159), (18, 153), (19, 153), (20, 153), (21, 153), (22, 155), (23, 155), (24, 155), (38, 151), (42, 159), (43, 157), (45, 157), (60, 153), (62, 153), (94, 149), (124, 147)] (162) (42) = 159 := (by decide); rw [h9, e9] at ht; omega
    subst et
    refine pw_bipush (v := (6 : Int32)) (aX4_levelOf 13 rfl) rfl ?_
    exact pw_iret (aX4_levelOf 14 rfl) hok
  skip
  refine pw_ite (pw_case ((a1).toInt = 18 ∨ (a1).toInt = 19 ∨ (a1).toInt = 20 ∨ (a1).toInt = 21 ∨ (a1).toInt = 60 ∨ (a1).toInt = 62) (fun b2 => ?_) (fun b2 => ?_))
  · have et : tg = 154 := by
      rcases b2 with h9 | h9 | h9 | h9 | h9 | h9
      · have e9 : Jvm.Op.lookupswitch.offset [(15, 159), (16, 159), (18, 153), (19, 153), (20, 153), (21, 153), (22, 155), (23, 155), (24, 155), (38, 151), (42, 159), (43, 157), (45, 157), (60, 153), (62, 153), (94, 149), (124, 147)] (162) (18) = 153 := (by decide); rw [h9, e9] at ht; omega
      · have e9 : Jvm.Op.lookupswitch.offset [(15, 159), (16, 159), (18, 153), (19, 153), (20, 153), (21, 153), (22, 155), (23, 155), (24, 155), (38, 151), (42, 159), (43, 157), (45, 157), (60, 153), (62, 153), (94, 149), (124, 147)] (162) (19) = 153 := (by decide); rw [h9, e9] at ht; omega
      · have e9 : Jvm.Op.lookupswitch.offset [(15, 159), (16, 159), (18, 153), (19, 153), (20, 153), (21, 153), (22, 155), (23, 155), (24, 155), (38, 151), (42, 159), (43, 157), (45, 157), (60, 153), (62, 153), (94, 149), (124, 147)] (162) (20) = 153 := (by decide); rw [h9, e9] at ht; omega
      · have e9 : Jvm.Op.lookupswitch.offset [(15, 159), (16, 159), (18, 153), (19, 153), (20, 153), (21, 153), (22, 155), (23, 155), (24, 155), (38, 151), (42, 159), (43, 157), (45, 157), (60, 153), (62, 153), (94, 149), (124, 147)] (162) (21) = 153 := (by decide); rw [h9, e9] at ht; omega
      · have e9 : Jvm.Op.lookupswitch.offset [(15, 159), (16, 159), (18, 153), (19, 153), (20, 153), (21, 153), (22, 155), (23, 155), (24, 155), (38, 151), (42, 159), (43, 157), (45, 157), (60, 153), (62, 153), (94, 149), (124, 147)] (162) (60) = 153 := (by decide); rw [h9, e9] at ht; omega
      · have e9 : Jvm.Op.lookupswitch.offset [(15, 159), (16, 159), (18, 153), (19, 153), (20, 153), (21, 153), (22, 155), (23, 155), (24, 155), (38, 151), (42, 159), (43, 157), (45, 157), (60, 153), (62, 153), (94, 149), (124, 147)] (162) (62) = 153 := (by decide); rw [h9, e9] at ht; omega
    subst et
    refine pw_iconst (v := (3 : Int32)) (aX4_levelOf 7 rfl) rfl ?_
    exact pw_iret (aX4_levelOf 8 rfl) hok
  skip
  refine pw_ite (pw_case ((a1).toInt = 22 ∨ (a1).toInt = 23 ∨ (a1).toInt = 24) (fun b3 => ?_) (fun b3 => ?_))
  · have et : tg = 156 := by
      rcases b3 with h9 | h9 | h9
      · have e9 : Jvm.Op.lookupswitch.offset [(15, 159), (16, 159), (18, 153), (19, 153), (20, 153), (21, 153), (22, 155), (23, 155), (24, 155), (38, 151), (42, 159), (43, 157), (45, 157), (60, 153), (62, 153), (94, 149), (124, 147)] (162) (22) = 155 := (by decide); rw [h9, e9] at ht; omega
      · have e9 : Jvm.Op.lookupswitch.offset [(15, 159), (16, 159), (18, 153), (19, 153), (20, 153), (21, 153), (22, 155), (23, 155), (24, 155), (38, 151), (42, 159), (43, 157), (45, 157), (60, 153), (62, 153), (94, 149), (124, 147)] (162) (23) = 155 := (by decide); rw [h9, e9] at ht; omega
      · have e9 : Jvm.Op.lookupswitch.offset [(15, 159), (16, 159), (18, 153), (19, 153), (20, 153), (21, 153), (22, 155), (23, 155), (24, 155), (38, 151), (42, 159), (43, 157), (45, 157), (60, 153), (62, 153), (94, 149), (124, 147)] (162) (24) = 155 := (by decide); rw [h9, e9] at ht; omega
    subst et
    refine pw_iconst (v := (4 : Int32)) (aX4_levelOf 9 rfl) rfl ?_
    exact pw_iret (aX4_levelOf 10 rfl) hok
  skip
  refine pw_ite (pw_case ((a1).toInt = 38) (fun b4 => ?_) (fun b4 => ?_))
  · have et : tg = 152 := by
      have e9 : Jvm.Op.lookupswitch.offset [(15, 159), (16, 159), (18, 153), (19, 153), (20, 153), (21, 153), (22, 155), (23, 155), (24, 155), (38, 151), (42, 159), (43, 157), (45, 157), (60, 153), (62, 153), (94, 149), (124, 147)] (162) (38) = 151 := (by decide); rw [b4, e9] at ht; omega
    subst et
    refine pw_iconst (v := (2 : Int32)) (aX4_levelOf 5 rfl) rfl ?_
    exact pw_iret (aX4_levelOf 6 rfl) hok
  skip
  refine pw_ite (pw_case ((a1).toInt = 43 ∨ (a1).toInt = 45) (fun b5 => ?_) (fun b5 => ?_))
  · have et : tg = 158 := by
      rcases b5 with h9 | h9
      · have e9 : Jvm.Op.lookupswitch.offset [(15, 159), (16, 159), (18, 153), (19, 153), (20, 153), (21, 153), (22, 155), (23, 155), (24, 155), (38, 151), (42, 159), (43, 157), (45, 157), (60, 153), (62, 153), (94, 149), (124, 147)] (162) (43) = 157 := (by decide); rw [h9, e9] at ht; omega
      · have e9 : Jvm.Op.lookupswitch.offset [(15, 159), (16, 159), (18, 153), (19, 153), (20, 153), (21, 153), (22, 155), (23, 155), (24, 155), (38, 151), (42, 159), (43, 157), (45, 157), (60, 153), (62, 153), (94, 149), (124, 147)] (162) (45) = 157 := (by decide); rw [h9, e9] at ht; omega
    subst et
    refine pw_iconst (v := (5 : Int32)) (aX4_levelOf 11 rfl) rfl ?_
    exact pw_iret (aX4_levelOf 12 rfl) hok
  skip
  refine pw_ite (pw_case ((a1).toInt = 94) (fun b6 => ?_) (fun b6 => ?_))
  · have et : tg = 150 := by
      have e9 : Jvm.Op.lookupswitch.offset [(15, 159), (16, 159), (18, 153), (19, 153), (20, 153), (21, 153), (22, 155), (23, 155), (24, 155), (38, 151), (42, 159), (43, 157), (45, 157), (60, 153), (62, 153), (94, 149), (124, 147)] (162) (94) = 149 := (by decide); rw [b6, e9] at ht; omega
    subst et
    refine pw_iconst (v := (1 : Int32)) (aX4_levelOf 3 rfl) rfl ?_
    exact pw_iret (aX4_levelOf 4 rfl) hok
  skip
  refine pw_ite (pw_case ((a1).toInt = 124) (fun b7 => ?_) (fun b7 => ?_))
  · have et : tg = 148 := by
      have e9 : Jvm.Op.lookupswitch.offset [(15, 159), (16, 159), (18, 153), (19, 153), (20, 153), (21, 153), (22, 155), (23, 155), (24, 155), (38, 151), (42, 159), (43, 157), (45, 157), (60, 153), (62, 153), (94, 149), (124, 147)] (162) (124) = 147 := (by decide); rw [b7, e9] at ht; omega
    subst et
    refine pw_iconst (v := (0 : Int32)) (aX4_levelOf 1 rfl) rfl ?_
    exact pw_iret (aX4_levelOf 2 rfl) hok
  skip
  have et : tg = 163 := by
    simp only [Jvm.Op.lookupswitch.offset] at ht; rw [if_neg (by omega), if_neg (by omega), if_neg (by omega), if_neg (by omega), if_neg (by omega), if_neg (by omega), if_neg (by omega), if_neg (by omega), if_neg (by omega), if_neg (by omega), if_neg (by omega), if_neg (by omega), if_neg (by omega), if_neg (by omega), if_neg (by omega), if_neg (by omega), if_neg (by omega)] at ht; omega
  subst et
  refine pw_iconst (v := (-1 : Int32)) (aX4_levelOf 15 rfl) rfl ?_
  exact pw_iret (aX4_levelOf 16 rfl) hok
set_option maxHeartbeats 4000000 in
set_option maxRecDepth 100000 in
theorem rX4_beginsPlace {sk : xK} {base N d : Nat} (hkb : x_kb sk base) (a1 : Int32) (n sl : Nat) (SH : Nat → Nat × Nat) (FI : Nat → Nat → Int32) (FL : Nat → Nat → Int64) (FR : Nat → Nat → Option Nat) (hok : pk n SH FR)  : pw pj_I sk base N d none 49 0 [(0, .int (a1))] [] (n, sl, SH, FI, FL, FR) (P_ret (fX4_beginsPlace a1 SH FI FL FR) (n, sl, SH, FI, FL, FR)) := by
  unfold fX4_beginsPlace
  refine pw_iloadn (aX4_beginsPlace 0 rfl) rfl ?_
  refine pw_bipush (v := (7 : Int32)) (aX4_beginsPlace 1 rfl) rfl ?_
  refine pw_ite (pw_iceq (tgt := 30) (aX4_beginsPlace 2 rfl) (by decide) (fun b0 => ?_) (fun b0 => ?_))
  · skip
    refine pw_iconst (v := (1 : Int32)) (aX4_beginsPlace 15 rfl) rfl ?_
    refine pw_goto (tgt := 35) (aX4_beginsPlace 16 rfl) (by decide) ?_
    exact pw_iret (aX4_beginsPlace 18 rfl) hok
  · skip
    refine pw_iloadn (aX4_beginsPlace 3 rfl) rfl ?_
    refine pw_bipush (v := (91 : Int32)) (aX4_beginsPlace 4 rfl) rfl ?_
    refine pw_ite (pw_iceq (tgt := 30) (aX4_beginsPlace 5 rfl) (by decide) (fun b1 => ?_) (fun b1 => ?_))
    · skip
      refine pw_iconst (v := (1 : Int32)) (aX4_beginsPlace 15 rfl) rfl ?_
      refine pw_goto (tgt := 35) (aX4_beginsPlace 16 rfl) (by decide) ?_
      exact pw_iret (aX4_beginsPlace 18 rfl) hok
    · skip
      refine pw_iloadn (aX4_beginsPlace 6 rfl) rfl ?_
      refine pw_bipush (v := (8 : Int32)) (aX4_beginsPlace 7 rfl) rfl ?_
      refine pw_ite (pw_iceq (tgt := 30) (aX4_beginsPlace 8 rfl) (by decide) (fun b2 => ?_) (fun b2 => ?_))
      · skip
        refine pw_iconst (v := (1 : Int32)) (aX4_beginsPlace 15 rfl) rfl ?_
        refine pw_goto (tgt := 35) (aX4_beginsPlace 16 rfl) (by decide) ?_
        exact pw_iret (aX4_beginsPlace 18 rfl) hok
      · skip
        refine pw_iloadn (aX4_beginsPlace 9 rfl) rfl ?_
        refine pw_bipush (v := (9 : Int32)) (aX4_beginsPlace 10 rfl) rfl ?_
        refine pw_ite (pw_iceq (tgt := 30) (aX4_beginsPlace 11 rfl) (by decide) (fun b3 => ?_) (fun b3 => ?_))
        · skip
          refine pw_iconst (v := (1 : Int32)) (aX4_beginsPlace 15 rfl) rfl ?_
          refine pw_goto (tgt := 35) (aX4_beginsPlace 16 rfl) (by decide) ?_
          exact pw_iret (aX4_beginsPlace 18 rfl) hok
        · skip
          refine pw_iloadn (aX4_beginsPlace 12 rfl) rfl ?_
          refine pw_bipush (v := (10 : Int32)) (aX4_beginsPlace 13 rfl) rfl ?_
          refine pw_ite (pw_icne (tgt := 34) (aX4_beginsPlace 14 rfl) (by decide) (fun b4 => ?_) (fun b4 => ?_))
          · skip
            refine pw_iconst (v := (1 : Int32)) (aX4_beginsPlace 15 rfl) rfl ?_
            refine pw_goto (tgt := 35) (aX4_beginsPlace 16 rfl) (by decide) ?_
            exact pw_iret (aX4_beginsPlace 18 rfl) hok
          · skip
            refine pw_iconst (v := (0 : Int32)) (aX4_beginsPlace 17 rfl) rfl ?_
            exact pw_iret (aX4_beginsPlace 18 rfl) hok
set_option maxHeartbeats 4000000 in
set_option maxRecDepth 100000 in
theorem rX4_refuseHighRegister {sk : xK} {base N d : Nat} (hkb : x_kb sk base)  (n sl : Nat) (SH : Nat → Nat × Nat) (FI : Nat → Nat → Int32) (FL : Nat → Nat → Int64) (FR : Nat → Nat → Option Nat) (hok : pk n SH FR)  : pw pj_J sk base N d none 51 0 [(0, .ref (base + 110))] [] (n, sl, SH, FI, FL, FR) (RX4_refuseHighRegister  n sl SH FI FL FR) := by
  unfold RX4_refuseHighRegister
  refine pw_aloadn (aX4_refuseHighRegister 0 rfl) rfl ?_
  refine pw_getr (v := .int (FI 110 8)) (aX4_refuseHighRegister 1 rfl) uf_RX4_51 un_RX4_51 rfl ?_
  refine pw_iconst (v := (5 : Int32)) (aX4_refuseHighRegister 2 rfl) rfl ?_
  refine pw_icne (tgt := 24) (aX4_refuseHighRegister 3 rfl) (by decide) (fun b0 => ?_) (fun b0 => ?_)
  · skip
    refine pw_aloadn (aX4_refuseHighRegister 4 rfl) rfl ?_
    refine pw_getr (v := .long (FL 110 9)) (aX4_refuseHighRegister 5 rfl) uf_RX4_62 un_RX4_62 rfl ?_
    refine pw_ldc2 (v := (32 : Int64)) (aX4_refuseHighRegister 6 rfl) uk_RX4_167 ?_
    refine pw_lclt (tgt := 24) (aX4_refuseHighRegister 7 rfl) (aX4_refuseHighRegister 8 rfl) (by decide) (fun b1 => ?_) (fun b1 => ?_)
    · skip
      refine pw_aloadn (aX4_refuseHighRegister 12 rfl) rfl ?_
      refine pw_getr (v := .long (FL 110 9)) (aX4_refuseHighRegister 13 rfl) uf_RX4_62 un_RX4_62 rfl ?_
      exact pw_lret (aX4_refuseHighRegister 14 rfl) hok
    · skip
      refine pw_aloadn (aX4_refuseHighRegister 9 rfl) rfl ?_
      refine pw_iconst (v := (2 : Int32)) (aX4_refuseHighRegister 10 rfl) rfl ?_
      refine pw_callV (Bs := [.int ((2 : Int32))]) (rest := []) (aX4_refuseHighRegister 11 rfl) um_RX4_69 ujX4_refuse wc_RX4_69.2.2.2.2 (by decide) (by decide) rfl rfl (fun d => rX4_refuse hkb ((2 : Int32)) n sl SH FI FL FR hok) (fun v2 n2 sl2 SH2 FI2 FL2 FR2 hok2 _ => ?_)
      show pw _ _ _ _ _ _ _ 24 _ [] _ _
      refine pw_aloadn (aX4_refuseHighRegister 12 rfl) rfl ?_
      refine pw_getr (v := .long (FL2 110 9)) (aX4_refuseHighRegister 13 rfl) uf_RX4_62 un_RX4_62 rfl ?_
      exact pw_lret (aX4_refuseHighRegister 14 rfl) hok2
  · skip
    refine pw_aloadn (aX4_refuseHighRegister 12 rfl) rfl ?_
    refine pw_getr (v := .long (FL 110 9)) (aX4_refuseHighRegister 13 rfl) uf_RX4_62 un_RX4_62 rfl ?_
    exact pw_lret (aX4_refuseHighRegister 14 rfl) hok
set_option maxHeartbeats 4000000 in
set_option maxRecDepth 100000 in
theorem rX4_operationOf {sk : xK} {base N d : Nat} (hkb : x_kb sk base) (a1 : Int32) (n sl : Nat) (SH : Nat → Nat × Nat) (FI : Nat → Nat → Int32) (FL : Nat → Nat → Int64) (FR : Nat → Nat → Option Nat) (hok : pk n SH FR)  : pw pj_I sk base N d none 57 0 [(0, .int (a1))] [] (n, sl, SH, FI, FL, FR) (P_ret (fX4_operationOf a1 SH FI FL FR) (n, sl, SH, FI, FL, FR)) := by
  unfold fX4_operationOf
  refine pw_iloadn (aX4_operationOf 0 rfl) rfl ?_
  refine pw_lsw aX4_operationOf_1 (fun tg ht => ?_)
  refine pw_ite (pw_case ((a1).toInt = 15) (fun b1 => ?_) (fun b1 => ?_))
  · have et : tg = 185 := by
      have e9 : Jvm.Op.lookupswitch.offset [(15, 184), (18, 148), (19, 151), (20, 157), (21, 163), (22, 166), (23, 169), (24, 172), (38, 145), (42, 181), (43, 175), (45, 178), (60, 154), (62, 160), (94, 142), (124, 139)] (187) (15) = 184 := (by decide); rw [b1, e9] at ht; omega
    subst et
    refine pw_bipush (v := (27 : Int32)) (aX4_operationOf 31 rfl) rfl ?_
    exact pw_iret (aX4_operationOf 32 rfl) hok
  skip
  refine pw_ite (pw_case ((a1).toInt = 18) (fun b2 => ?_) (fun b2 => ?_))
  · have et : tg = 149 := by
      have e9 : Jvm.Op.lookupswitch.offset [(15, 184), (18, 148), (19, 151), (20, 157), (21, 163), (22, 166), (23, 169), (24, 172), (38, 145), (42, 181), (43, 175), (45, 178), (60, 154), (62, 160), (94, 142), (124, 139)] (187) (18) = 148 := (by decide); rw [b2, e9] at ht; omega
    subst et
    refine pw_bipush (v := (41 : Int32)) (aX4_operationOf 7 rfl) rfl ?_
    exact pw_iret (aX4_operationOf 8 rfl) hok
  skip
  refine pw_ite (pw_case ((a1).toInt = 19) (fun b3 => ?_) (fun b3 => ?_))
  · have et : tg = 152 := by
      have e9 : Jvm.Op.lookupswitch.offset [(15, 184), (18, 148), (19, 151), (20, 157), (21, 163), (22, 166), (23, 169), (24, 172), (38, 145), (42, 181), (43, 175), (45, 178), (60, 154), (62, 160), (94, 142), (124, 139)] (187) (19) = 151 := (by decide); rw [b3, e9] at ht; omega
    subst et
    refine pw_bipush (v := (46 : Int32)) (aX4_operationOf 9 rfl) rfl ?_
    exact pw_iret (aX4_operationOf 10 rfl) hok
  skip
  refine pw_ite (pw_case ((a1).toInt = 20) (fun b4 => ?_) (fun b4 => ?_))
  · have et : tg = 158 := by
      have e9 : Jvm.Op.lookupswitch.offset [(15, 184), (18, 148), (19, 151), (20, 157), (21, 163), (22, 166), (23, 169), (24, 172), (38, 145), (42, 181), (43, 175), (45, 178), (60, 154), (62, 160), (94, 142), (124, 139)] (187) (20) = 157 := (by decide); rw [b4, e9] at ht; omega
    subst et
    refine pw_bipush (v := (44 : Int32)) (aX4_operationOf 13 rfl) rfl ?_
    exact pw_iret (aX4_operationOf 14 rfl) hok
  skip
  refine pw_ite (pw_case ((a1).toInt = 21) (fun b5 => ?_) (fun b5 => ?_))
  · have et : tg = 164 := by
      have e9 : Jvm.Op.lookupswitch.offset [(15, 184), (18, 148), (19, 151), (20, 157), (21, 163), (22, 166), (23, 169), (24, 172), (38, 145), (42, 181), (43, 175), (45, 178), (60, 154), (62, 160), (94, 142), (124, 139)] (187) (21) = 163 := (by decide); rw [b5, e9] at ht; omega
    subst et
    refine pw_bipush (v := (42 : Int32)) (aX4_operationOf 17 rfl) rfl ?_
    exact pw_iret (aX4_operationOf 18 rfl) hok
  skip
  refine pw_ite (pw_case ((a1).toInt = 22) (fun b6 => ?_) (fun b6 => ?_))
  · have et : tg = 167 := by
      have e9 : Jvm.Op.lookupswitch.offset [(15, 184), (18, 148), (19, 151), (20, 157), (21, 163), (22, 166), (23, 169), (24, 172), (38, 145), (42, 181), (43, 175), (45, 178), (60, 154), (62, 160), (94, 142), (124, 139)] (187) (22) = 166 := (by decide); rw [b6, e9] at ht; omega
    subst et
    refine pw_bipush (v := (36 : Int32)) (aX4_operationOf 19 rfl) rfl ?_
    exact pw_iret (aX4_operationOf 20 rfl) hok
  skip
  refine pw_ite (pw_case ((a1).toInt = 23) (fun b7 => ?_) (fun b7 => ?_))
  · have et : tg = 170 := by
      have e9 : Jvm.Op.lookupswitch.offset [(15, 184), (18, 148), (19, 151), (20, 157), (21, 163), (22, 166), (23, 169), (24, 172), (38, 145), (42, 181), (43, 175), (45, 178), (60, 154), (62, 160), (94, 142), (124, 139)] (187) (23) = 169 := (by decide); rw [b7, e9] at ht; omega
    subst et
    refine pw_bipush (v := (38 : Int32)) (aX4_operationOf 21 rfl) rfl ?_
    exact pw_iret (aX4_operationOf 22 rfl) hok
  skip
  refine pw_ite (pw_case ((a1).toInt = 24) (fun b8 => ?_) (fun b8 => ?_))
  · have et : tg = 173 := by
      have e9 : Jvm.Op.lookupswitch.offset [(15, 184), (18, 148), (19, 151), (20, 157), (21, 163), (22, 166), (23, 169), (24, 172), (38, 145), (42, 181), (43, 175), (45, 178), (60, 154), (62, 160), (94, 142), (124, 139)] (187) (24) = 172 := (by decide); rw [b8, e9] at ht; omega
    subst et
    refine pw_bipush (v := (37 : Int32)) (aX4_operationOf 23 rfl) rfl ?_
    exact pw_iret (aX4_operationOf 24 rfl) hok
  skip
  refine pw_ite (pw_case ((a1).toInt = 38) (fun b9 => ?_) (fun b9 => ?_))
  · have et : tg = 146 := by
      have e9 : Jvm.Op.lookupswitch.offset [(15, 184), (18, 148), (19, 151), (20, 157), (21, 163), (22, 166), (23, 169), (24, 172), (38, 145), (42, 181), (43, 175), (45, 178), (60, 154), (62, 160), (94, 142), (124, 139)] (187) (38) = 145 := (by decide); rw [b9, e9] at ht; omega
    subst et
    refine pw_bipush (v := (26 : Int32)) (aX4_operationOf 5 rfl) rfl ?_
    exact pw_iret (aX4_operationOf 6 rfl) hok
  skip
  refine pw_ite (pw_case ((a1).toInt = 42) (fun b10 => ?_) (fun b10 => ?_))
  · have et : tg = 182 := by
      have e9 : Jvm.Op.lookupswitch.offset [(15, 184), (18, 148), (19, 151), (20, 157), (21, 163), (22, 166), (23, 169), (24, 172), (38, 145), (42, 181), (43, 175), (45, 178), (60, 154), (62, 160), (94, 142), (124, 139)] (187) (42) = 181 := (by decide); rw [b10, e9] at ht; omega
    subst et
    refine pw_bipush (v := (30 : Int32)) (aX4_operationOf 29 rfl) rfl ?_
    exact pw_iret (aX4_operationOf 30 rfl) hok
  skip
  refine pw_ite (pw_case ((a1).toInt = 43) (fun b11 => ?_) (fun b11 => ?_))
  · have et : tg = 176 := by
      have e9 : Jvm.Op.lookupswitch.offset [(15, 184), (18, 148), (19, 151), (20, 157), (21, 163), (22, 166), (23, 169), (24, 172), (38, 145), (42, 181), (43, 175), (45, 178), (60, 154), (62, 160), (94, 142), (124, 139)] (187) (43) = 175 := (by decide); rw [b11, e9] at ht; omega
    subst et
    refine pw_bipush (v := (34 : Int32)) (aX4_operationOf 25 rfl) rfl ?_
    exact pw_iret (aX4_operationOf 26 rfl) hok
  skip
  refine pw_ite (pw_case ((a1).toInt = 45) (fun b12 => ?_) (fun b12 => ?_))
  · have et : tg = 179 := by
      have e9 : Jvm.Op.lookupswitch.offset [(15, 184), (18, 148), (19, 151), (20, 157), (21, 163), (22, 166), (23, 169), (24, 172), (38, 145), (42, 181), (43, 175), (45, 178), (60, 154), (62, 160), (94, 142), (124, 139)] (187) (45) = 178 := (by decide); rw [b12, e9] at ht; omega
    subst et
    refine pw_bipush (v := (28 : Int32)) (aX4_operationOf 27 rfl) rfl ?_
    exact pw_iret (aX4_operationOf 28 rfl) hok
  skip
  refine pw_ite (pw_case ((a1).toInt = 60) (fun b13 => ?_) (fun b13 => ?_))
  · have et : tg = 155 := by
      have e9 : Jvm.Op.lookupswitch.offset [(15, 184), (18, 148), (19, 151), (20, 157), (21, 163), (22, 166), (23, 169), (24, 172), (38, 145), (42, 181), (43, 175), (45, 178), (60, 154), (62, 160), (94, 142), (124, 139)] (187) (60) = 154 := (by decide); rw [b13, e9] at ht; omega
    subst et
    refine pw_bipush (v := (45 : Int32)) (aX4_operationOf 11 rfl) rfl ?_
    exact pw_iret (aX4_operationOf 12 rfl) hok
  skip
  refine pw_ite (pw_case ((a1).toInt = 62) (fun b14 => ?_) (fun b14 => ?_))
  · have et : tg = 161 := by
      have e9 : Jvm.Op.lookupswitch.offset [(15, 184), (18, 148), (19, 151), (20, 157), (21, 163), (22, 166), (23, 169), (24, 172), (38, 145), (42, 181), (43, 175), (45, 178), (60, 154), (62, 160), (94, 142), (124, 139)] (187) (62) = 160 := (by decide); rw [b14, e9] at ht; omega
    subst et
    refine pw_bipush (v := (43 : Int32)) (aX4_operationOf 15 rfl) rfl ?_
    exact pw_iret (aX4_operationOf 16 rfl) hok
  skip
  refine pw_ite (pw_case ((a1).toInt = 94) (fun b15 => ?_) (fun b15 => ?_))
  · have et : tg = 143 := by
      have e9 : Jvm.Op.lookupswitch.offset [(15, 184), (18, 148), (19, 151), (20, 157), (21, 163), (22, 166), (23, 169), (24, 172), (38, 145), (42, 181), (43, 175), (45, 178), (60, 154), (62, 160), (94, 142), (124, 139)] (187) (94) = 142 := (by decide); rw [b15, e9] at ht; omega
    subst et
    refine pw_bipush (v := (39 : Int32)) (aX4_operationOf 3 rfl) rfl ?_
    exact pw_iret (aX4_operationOf 4 rfl) hok
  skip
  refine pw_ite (pw_case ((a1).toInt = 124) (fun b16 => ?_) (fun b16 => ?_))
  · have et : tg = 140 := by
      have e9 : Jvm.Op.lookupswitch.offset [(15, 184), (18, 148), (19, 151), (20, 157), (21, 163), (22, 166), (23, 169), (24, 172), (38, 145), (42, 181), (43, 175), (45, 178), (60, 154), (62, 160), (94, 142), (124, 139)] (187) (124) = 139 := (by decide); rw [b16, e9] at ht; omega
    subst et
    refine pw_bipush (v := (33 : Int32)) (aX4_operationOf 1 rfl) rfl ?_
    exact pw_iret (aX4_operationOf 2 rfl) hok
  skip
  have et : tg = 188 := by
    simp only [Jvm.Op.lookupswitch.offset] at ht; rw [if_neg (by omega), if_neg (by omega), if_neg (by omega), if_neg (by omega), if_neg (by omega), if_neg (by omega), if_neg (by omega), if_neg (by omega), if_neg (by omega), if_neg (by omega), if_neg (by omega), if_neg (by omega), if_neg (by omega), if_neg (by omega), if_neg (by omega), if_neg (by omega)] at ht; omega
  subst et
  refine pw_bipush (v := (29 : Int32)) (aX4_operationOf 33 rfl) rfl ?_
  exact pw_iret (aX4_operationOf 34 rfl) hok
set_option maxHeartbeats 4000000 in
set_option maxRecDepth 100000 in
theorem bX4_areSame_11 {sk : xK} {base N d : Nat} {K11 : Int32 → Nat → Nat → (Nat → Nat × Nat) → (Nat → Nat → Int32) → (Nat → Nat → Int64) → (Nat → Nat → Option Nat) → Int32 → hS → Prop} (hkb : x_kb sk base) (a1 : Option Nat) (a2 : Option Nat) (l2i : Int32)  (n sl : Nat) (SH : Nat → Nat × Nat) (FI : Nat → Nat → Int32) (FL : Nat → Nat → Int64) (FR : Nat → Nat → Option Nat) (hok : pk n SH FR)  (hK11 : ∀ (l2i : Int32) (n sl : Nat) (SH : Nat → Nat × Nat) (FI : Nat → Nat → Int32) (FL : Nat → Nat → Int64) (FR : Nat → Nat → Option Nat), pk n SH FR → pw pj_I sk base N d none 44 11 [(0, va_rf (h_rf base (a1))), (1, va_rf (h_rf base (a2))), (2, .int (l2i))] [] (n, sl, SH, FI, FL, FR) (K11 l2i n sl SH FI FL FR)) : pw pj_I sk base (N + 1) d none 44 11 [(0, va_rf (h_rf base (a1))), (1, va_rf (h_rf base (a2))), (2, .int (l2i))] [] (n, sl, SH, FI, FL, FR) (BX4_areSame_11 K11 a1 a2 l2i n sl SH FI FL FR) := by
  unfold BX4_areSame_11
  refine pd_iloadn (aX4_areSame 9 rfl) rfl ?_
  refine pw_aloadn (aX4_areSame 10 rfl) rfl ?_
  refine pw_alen hkb (o := a1) (aX4_areSame 11 rfl) (fun c1 hc1 _ => ?_)
  refine pw_icge (tgt := 34) (aX4_areSame 12 rfl) (by decide) (fun b1 => ?_) (fun b1 => ?_)
  · skip
    refine pw_aloadn (aX4_areSame 13 rfl) rfl ?_
    refine pw_iloadn (aX4_areSame 14 rfl) rfl ?_
    refine pw_iald (ix := (l2i).toInt.toNat) (o := a1) (aX4_areSame 15 rfl) rfl (fun c3 hc3 _ gc3 => ?_)
    refine pw_aloadn (aX4_areSame 16 rfl) rfl ?_
    refine pw_iloadn (aX4_areSame 17 rfl) rfl ?_
    refine pw_iald (ix := (l2i).toInt.toNat) (o := a2) (aX4_areSame 18 rfl) rfl (fun c4 hc4 _ gc4 => ?_)
    refine pw_iceq (tgt := 28) (aX4_areSame 19 rfl) (by decide) (fun b4 => ?_) (fun b4 => ?_)
    · skip
      refine pw_iinc (v := (l2i) + (1 : Int32)) (L2 := [(2, .int ((l2i) + (1 : Int32))), (0, va_rf (h_rf base (a1))), (1, va_rf (h_rf base (a2)))]) (aX4_areSame 22 rfl) rfl rfl (by first | rfl | (simp [x_s1, x_s2, va_cat, va_ci, va_cl, va_cr, va_cn]; done) | (simp [x_s1, x_s2, va_cat, va_ci, va_cl, va_cr, va_cn]; decide)) ?_
      refine pw_goto (tgt := 11) (aX4_areSame 23 rfl) (by decide) ?_
      exact pw_Li (L2 := [(0, va_rf (h_rf base (a1))), (1, va_rf (h_rf base (a2))), (2, .int ((l2i) + (1 : Int32)))]) [2, 0, 1] (hK11 ((l2i) + (1 : Int32)) n sl SH FI FL FR hok) ⟨rfl, rfl, rfl, trivial⟩
    · skip
      refine pw_iconst (v := (0 : Int32)) (aX4_areSame 20 rfl) rfl ?_
      exact pw_iret (aX4_areSame 21 rfl) hok
  · skip
    refine pw_iconst (v := (1 : Int32)) (aX4_areSame 24 rfl) rfl ?_
    exact pw_iret (aX4_areSame 25 rfl) hok
theorem gX4_areSame_11 {sk : xK} {base d : Nat}  (hkb : x_kb sk base) (a1 : Option Nat) (a2 : Option Nat) (N : Nat) :  ∀ (l2i : Int32)  (n sl : Nat) (SH : Nat → Nat × Nat) (FI : Nat → Nat → Int32) (FL : Nat → Nat → Int64) (FR : Nat → Nat → Option Nat), pk n SH FR → pw pj_I sk base N d none 44 11 [(0, va_rf (h_rf base (a1))), (1, va_rf (h_rf base (a2))), (2, .int (l2i))] [] (n, sl, SH, FI, FL, FR) (GX4_areSame_11  a1 a2 (N + 1) l2i n sl SH FI FL FR) := by
  induction N with
  | zero => intros; exact pw_0
  | succ N ih => intro   l2i  n sl SH FI FL FR hok; exact bX4_areSame_11 hkb a1 a2 l2i  n sl SH FI FL FR hok  (ih  )
theorem rX4_areSame_11 {sk : xK} {base N d : Nat}  (hkb : x_kb sk base) (a1 : Option Nat) (a2 : Option Nat) (l2i : Int32)  (n sl : Nat) (SH : Nat → Nat × Nat) (FI : Nat → Nat → Int32) (FL : Nat → Nat → Int64) (FR : Nat → Nat → Option Nat) (hok : pk n SH FR)   : pw pj_I sk base N d none 44 11 [(0, va_rf (h_rf base (a1))), (1, va_rf (h_rf base (a2))), (2, .int (l2i))] [] (n, sl, SH, FI, FL, FR) (RX4_areSame_11  a1 a2 l2i n sl SH FI FL FR) := pw_cons (gX4_areSame_11 hkb a1 a2 N   l2i  n sl SH FI FL FR hok) (fun _ _ h => ⟨_, h⟩)
set_option maxHeartbeats 4000000 in
set_option maxRecDepth 100000 in
theorem rX4_areSame {sk : xK} {base N d : Nat} (hkb : x_kb sk base) (a1 : Option Nat) (a2 : Option Nat) (n sl : Nat) (SH : Nat → Nat × Nat) (FI : Nat → Nat → Int32) (FL : Nat → Nat → Int64) (FR : Nat → Nat → Option Nat) (hok : pk n SH FR)  : pw pj_I sk base N d none 44 0 [(0, va_rf (h_rf base (a1))), (1, va_rf (h_rf base (a2)))] [] (n, sl, SH, FI, FL, FR) (RX4_areSame a1 a2 n sl SH FI FL FR) := by
  unfold RX4_areSame
  refine pw_aloadn (aX4_areSame 0 rfl) rfl ?_
  refine pw_alen hkb (o := a1) (aX4_areSame 1 rfl) (fun c1 hc1 _ => ?_)
  refine pw_aloadn (aX4_areSame 2 rfl) rfl ?_
  refine pw_alen hkb (o := a2) (aX4_areSame 3 rfl) (fun c2 hc2 _ => ?_)
  refine pw_iceq (tgt := 9) (aX4_areSame 4 rfl) (by decide) (fun b2 => ?_) (fun b2 => ?_)
  · skip
    refine pw_iconst (v := (0 : Int32)) (aX4_areSame 7 rfl) rfl ?_
    refine pw_istoren (L2 := [(2, .int ((0 : Int32))), (0, va_rf (h_rf base (a1))), (1, va_rf (h_rf base (a2)))]) (aX4_areSame 8 rfl) (by first | rfl | (simp [x_s1, x_s2, va_cat, va_ci, va_cl, va_cr, va_cn]; done) | (simp [x_s1, x_s2, va_cat, va_ci, va_cl, va_cr, va_cn]; decide)) ?_
    exact pw_Li (L2 := [(0, va_rf (h_rf base (a1))), (1, va_rf (h_rf base (a2))), (2, .int ((0 : Int32)))]) [2, 0, 1] (rX4_areSame_11 hkb a1 a2 ((0 : Int32)) n sl SH FI FL FR hok  ) ⟨rfl, rfl, rfl, trivial⟩
  · skip
    refine pw_iconst (v := (0 : Int32)) (aX4_areSame 5 rfl) rfl ?_
    exact pw_iret (aX4_areSame 6 rfl) hok
set_option maxHeartbeats 4000000 in
set_option maxRecDepth 100000 in
theorem rX3_init {sk : xK} {base N d : Nat} (hkb : x_kb sk base) (c : Nat) (a1 : Int32) (a2 : Int64) (n sl : Nat) (SH : Nat → Nat × Nat) (FI : Nat → Nat → Int32) (FL : Nat → Nat → Int64) (FR : Nat → Nat → Option Nat) (hok : pk n SH FR)  : pw pj_V sk base N d none 34 0 [(0, .ref (base + c)), (1, .int (a1)), (2, .long (a2))] [] (n, sl, SH, FI, FL, FR) (RX3_init c a1 a2 n sl SH FI FL FR) := by
  unfold RX3_init
  refine pw_aloadn (aX3_init 0 rfl) rfl ?_
  refine pw_oinit (aX3_init 1 rfl) um_RX3_1 ?_
  refine pw_aloadn (aX3_init 2 rfl) rfl ?_
  refine pw_iloadn (aX3_init 3 rfl) rfl ?_
  refine pw_putri (aX3_init 4 rfl) uf_RX3_7 (fun _ _ _ => rfl) (fun t1 => ?_)
  refine pw_aloadn (aX3_init 5 rfl) rfl ?_
  refine pw_lloadn (aX3_init 6 rfl) rfl ?_
  refine pw_putrl (aX3_init 7 rfl) uf_RX3_13 (fun _ _ _ => rfl) (fun t2 => ?_)
  exact pw_vret (aX3_init 8 rfl) hok
set_option maxHeartbeats 4000000 in
set_option maxRecDepth 100000 in
theorem rX6_init {sk : xK} {base N d : Nat} (hkb : x_kb sk base) (c : Nat) (n sl : Nat) (SH : Nat → Nat × Nat) (FI : Nat → Nat → Int32) (FL : Nat → Nat → Int64) (FR : Nat → Nat → Option Nat) (hok : pk n SH FR)  : pw pj_V sk base N d none 63 0 [(0, .ref (base + c))] [] (n, sl, SH, FI, FL, FR) (RX6_init c n sl SH FI FL FR) := by
  unfold RX6_init
  refine pw_aloadn (aX6_init 0 rfl) rfl ?_
  refine pw_oinit (aX6_init 1 rfl) um_RX6_3 ?_
  refine pw_aloadn (aX6_init 2 rfl) rfl ?_
  refine pw_iconst (v := (-1 : Int32)) (aX6_init 3 rfl) rfl ?_
  refine pw_putri (aX6_init 4 rfl) uf_RX6_9 (fun _ _ _ => rfl) (fun t1 => ?_)
  exact pw_vret (aX6_init 5 rfl) hok
set_option maxHeartbeats 4000000 in
set_option maxRecDepth 100000 in
theorem rX10_init {sk : xK} {base N d : Nat} (hkb : x_kb sk base) (c : Nat) (a1 : Option Nat) (a2 : Int32) (n sl : Nat) (SH : Nat → Nat × Nat) (FI : Nat → Nat → Int32) (FL : Nat → Nat → Int64) (FR : Nat → Nat → Option Nat) (hok : pk n SH FR)  : pw pj_V sk base N d none 116 0 [(0, .ref (base + c)), (1, va_rf (h_rf base (a1))), (2, .int (a2))] [] (n, sl, SH, FI, FL, FR) (RX10_init c a1 a2 n sl SH FI FL FR) := by
  unfold RX10_init
  refine pw_aloadn (aX10_init 0 rfl) rfl ?_
  refine pw_oinit (aX10_init 1 rfl) um_RX10_1 ?_
  refine pw_aloadn (aX10_init 2 rfl) rfl ?_
  refine pw_bipush (v := (8 : Int32)) (aX10_init 3 rfl) rfl ?_
  refine pw_newa (k := 1) (zz := 8) hok (aX10_init 4 rfl) rfl rfl (fun v0 n0 sl0 SH0 FI0 FL0 FR0 hok0 _ => ?_)
  refine pw_putrr (p := some n) (aX10_init 5 rfl) uf_RX10_9 (fun _ _ _ => rfl) (fun t2 => ?_)
  refine pw_aloadn (aX10_init 6 rfl) rfl ?_
  refine pw_bipush (v := (8 : Int32)) (aX10_init 7 rfl) rfl ?_
  refine pw_newa (k := 1) (zz := 8) (pk_t hok0 t2 (by decide)) (aX10_init 8 rfl) rfl rfl (fun v2 n2 sl2 SH2 FI2 FL2 FR2 hok2 _ => ?_)
  refine pw_putrr (p := some n0) (aX10_init 9 rfl) uf_RX10_13 (fun _ _ _ => rfl) (fun t4 => ?_)
  refine pw_aloadn (aX10_init 10 rfl) rfl ?_
  refine pw_bipush (v := (8 : Int32)) (aX10_init 11 rfl) rfl ?_
  refine pw_newq (zz := 8) (pk_t hok2 t4 (by decide)) (aX10_init 12 rfl) uq_RX10_16 rfl (fun v4 n4 sl4 SH4 FI4 FL4 FR4 hok4 _ => ?_)
  refine pw_putrr (p := some n2) (aX10_init 13 rfl) uf_RX10_18 (fun _ _ _ => rfl) (fun t6 => ?_)
  refine pw_aloadn (aX10_init 14 rfl) rfl ?_
  refine pw_iconst (v := (0 : Int32)) (aX10_init 15 rfl) rfl ?_
  refine pw_newa (k := 0) (zz := 0) (pk_t hok4 t6 (by decide)) (aX10_init 16 rfl) rfl rfl (fun v6 n6 sl6 SH6 FI6 FL6 FR6 hok6 _ => ?_)
  refine pw_putrr (p := some n4) (aX10_init 17 rfl) uf_RX10_22 (fun _ _ _ => rfl) (fun t8 => ?_)
  refine pw_aloadn (aX10_init 18 rfl) rfl ?_
  refine pw_aloadn (aX10_init 19 rfl) rfl ?_
  refine pw_putrr (p := a1) (aX10_init 20 rfl) uf_RX10_26 (fun _ _ _ => rfl) (fun t9 => ?_)
  refine pw_aloadn (aX10_init 21 rfl) rfl ?_
  refine pw_iloadn (aX10_init 22 rfl) rfl ?_
  refine pw_putri (aX10_init 23 rfl) uf_RX10_29 (fun _ _ _ => rfl) (fun t10 => ?_)
  exact pw_vret (aX10_init 24 rfl) (pk_t (pk_t hok6 t8 (by decide)) t9 (by decide))
set_option maxHeartbeats 4000000 in
set_option maxRecDepth 100000 in
theorem rX4_readUnary {sk : xK} {base N d : Nat} (hkb : x_kb sk base) (MX4_readUnary : Nat → Nat → (Nat → Nat × Nat) → (Nat → Nat → Int32) → (Nat → Nat → Int64) → (Nat → Nat → Option Nat) → Option Nat → hS → Prop) (MX4_readLevel : Int32 → Nat → Nat → (Nat → Nat × Nat) → (Nat → Nat → Int32) → (Nat → Nat → Int64) → (Nat → Nat → Option Nat) → Option Nat → hS → Prop) (MX4_readChoice : Nat → Nat → (Nat → Nat × Nat) → (Nat → Nat → Int32) → (Nat → Nat → Int64) → (Nat → Nat → Option Nat) → Option Nat → hS → Prop) (n sl : Nat) (SH : Nat → Nat × Nat) (FI : Nat → Nat → Int32) (FL : Nat → Nat → Int64) (FR : Nat → Nat → Option Nat) (hok : pk n SH FR) (hMX4_readUnary : ∀  (n sl : Nat) (SH : Nat → Nat × Nat) (FI : Nat → Nat → Int32) (FL : Nat → Nat → Int64) (FR : Nat → Nat → Option Nat), pk n SH FR → ∀ d, pw (pj_A base) sk base (N - 1) d none 56 0 [(0, .ref (base + 110))] [] (n, sl, SH, FI, FL, FR) (MX4_readUnary  n sl SH FI FL FR)) (hMX4_readLevel : ∀ (a1 : Int32) (n sl : Nat) (SH : Nat → Nat × Nat) (FI : Nat → Nat → Int32) (FL : Nat → Nat → Int64) (FR : Nat → Nat → Option Nat), pk n SH FR → ∀ d, pw (pj_A base) sk base (N - 1) d none 54 0 [(0, .ref (base + 110)), (1, .int (a1))] [] (n, sl, SH, FI, FL, FR) (MX4_readLevel a1 n sl SH FI FL FR)) (hMX4_readChoice : ∀  (n sl : Nat) (SH : Nat → Nat × Nat) (FI : Nat → Nat → Int32) (FL : Nat → Nat → Int64) (FR : Nat → Nat → Option Nat), pk n SH FR → ∀ d, pw (pj_A base) sk base (N - 1) d none 53 0 [(0, .ref (base + 110))] [] (n, sl, SH, FI, FL, FR) (MX4_readChoice  n sl SH FI FL FR)) : pw (pj_A base) sk base N d none 56 0 [(0, .ref (base + 110))] [] (n, sl, SH, FI, FL, FR) (RX4_readUnary MX4_readUnary MX4_readLevel MX4_readChoice n sl SH FI FL FR) := by
  unfold RX4_readUnary
  refine pw_new hok (aX4_readUnary 0 rfl) uw_RX4_181 (fun v0 n0 sl0 SH0 FI0 FL0 FR0 hok0 _ => ?_)
  refine pw_dup (aX4_readUnary 1 rfl) ?_
  refine pw_aloadn (aX4_readUnary 2 rfl) rfl ?_
  refine pw_getr (v := .int (FI0 110 8)) (aX4_readUnary 3 rfl) uf_RX4_51 un_RX4_51 rfl ?_
  refine pw_aloadn (aX4_readUnary 4 rfl) rfl ?_
  refine pw_getr (v := .long (FL0 110 9)) (aX4_readUnary 5 rfl) uf_RX4_62 un_RX4_62 rfl ?_
  refine pw_callN (Bs := [.int (FI0 110 8), .long (FL0 110 9)]) (rest := [.ref (base + n)]) (aX4_readUnary 6 rfl) um_RX4_183 ujX3_init wc_RX4_183.2.2.2.2 (by decide) rfl rfl (fun d => rX3_init hkb n (FI0 110 8) (FL0 110 9) n0 sl0 SH0 FI0 FL0 FR0 hok0) (fun v1 n1 sl1 SH1 FI1 FL1 FR1 hok1 _ => ?_)
  show pw _ _ _ _ _ _ _ 15 _ [.ref (base + n)] _ _
  refine pw_astoren (L2 := [(1, .ref (base + n)), (0, .ref (base + 110))]) (aX4_readUnary 7 rfl) rfl ?_
  refine pw_aloadn (aX4_readUnary 8 rfl) rfl ?_
  refine pw_getr (v := .int (FI1 n 0)) (aX4_readUnary 9 rfl) uf_RX4_207 un_RX4_207 rfl ?_
  refine pw_lsw aX4_readUnary_20 (fun tg ht => ?_)
  refine pw_case ((FI1 n 0).toInt = 5 ∨ (FI1 n 0).toInt = 11 ∨ (FI1 n 0).toInt = 12 ∨ (FI1 n 0).toInt = 13) (fun b3 => ?_) (fun b3 => ?_)
  · have et : tg = 112 := by
      rcases b3 with h9 | h9 | h9 | h9
      · have e9 : Jvm.Op.lookupswitch.offset [(5, 92), (6, 119), (11, 92), (12, 92), (13, 92), (14, 119), (37, 99), (40, 151), (45, 119), (126, 119)] (189) (5) = 92 := (by decide); rw [h9, e9] at ht; omega
      · have e9 : Jvm.Op.lookupswitch.offset [(5, 92), (6, 119), (11, 92), (12, 92), (13, 92), (14, 119), (37, 99), (40, 151), (45, 119), (126, 119)] (189) (11) = 92 := (by decide); rw [h9, e9] at ht; omega
      · have e9 : Jvm.Op.lookupswitch.offset [(5, 92), (6, 119), (11, 92), (12, 92), (13, 92), (14, 119), (37, 99), (40, 151), (45, 119), (126, 119)] (189) (12) = 92 := (by decide); rw [h9, e9] at ht; omega
      · have e9 : Jvm.Op.lookupswitch.offset [(5, 92), (6, 119), (11, 92), (12, 92), (13, 92), (14, 119), (37, 99), (40, 151), (45, 119), (126, 119)] (189) (13) = 92 := (by decide); rw [h9, e9] at ht; omega
    subst et
    refine pw_aloadn (aX4_readUnary 10 rfl) rfl ?_
    refine pw_callV (Bs := []) (rest := []) (aX4_readUnary 11 rfl) um_RX4_48 ujX4_take wc_RX4_48.2.2.2.2 (by decide) (by decide) rfl rfl (fun d => rX4_take hkb  n1 sl1 SH1 FI1 FL1 FR1 hok1) (fun v3 n3 sl3 SH3 FI3 FL3 FR3 hok3 _ => ?_)
    show pw _ _ _ _ _ _ _ 116 _ [] _ _
    refine pw_goto (tgt := 214) (aX4_readUnary 12 rfl) (by decide) ?_
    refine pw_aloadn (aX4_readUnary 61 rfl) rfl ?_
    exact pw_aret (o := some n) (aX4_readUnary 62 rfl) hok3
  skip
  refine pw_case ((FI1 n 0).toInt = 6 ∨ (FI1 n 0).toInt = 14 ∨ (FI1 n 0).toInt = 45 ∨ (FI1 n 0).toInt = 126) (fun b5 => ?_) (fun b5 => ?_)
  · have et : tg = 139 := by
      rcases b5 with h9 | h9 | h9 | h9
      · have e9 : Jvm.Op.lookupswitch.offset [(5, 92), (6, 119), (11, 92), (12, 92), (13, 92), (14, 119), (37, 99), (40, 151), (45, 119), (126, 119)] (189) (6) = 119 := (by decide); rw [h9, e9] at ht; omega
      · have e9 : Jvm.Op.lookupswitch.offset [(5, 92), (6, 119), (11, 92), (12, 92), (13, 92), (14, 119), (37, 99), (40, 151), (45, 119), (126, 119)] (189) (14) = 119 := (by decide); rw [h9, e9] at ht; omega
      · have e9 : Jvm.Op.lookupswitch.offset [(5, 92), (6, 119), (11, 92), (12, 92), (13, 92), (14, 119), (37, 99), (40, 151), (45, 119), (126, 119)] (189) (45) = 119 := (by decide); rw [h9, e9] at ht; omega
      · have e9 : Jvm.Op.lookupswitch.offset [(5, 92), (6, 119), (11, 92), (12, 92), (13, 92), (14, 119), (37, 99), (40, 151), (45, 119), (126, 119)] (189) (126) = 119 := (by decide); rw [h9, e9] at ht; omega
    subst et
    refine pw_aloadn (aX4_readUnary 23 rfl) rfl ?_
    refine pw_callV (Bs := []) (rest := []) (aX4_readUnary 24 rfl) um_RX4_117 ujX4_raise wc_RX4_117.2.2.2.2 (by decide) (by decide) rfl rfl (fun d => rX4_raise hkb  n1 sl1 SH1 FI1 FL1 FR1 hok1) (fun v5 n5 sl5 SH5 FI5 FL5 FR5 hok5 _ => ?_)
    show pw _ _ _ _ _ _ _ 143 _ [.int (v5)] _ _
    refine pw_ifeq (tgt := 214) (aX4_readUnary 25 rfl) (by decide) (fun b6 => ?_) (fun b6 => ?_)
    · skip
      refine pw_aloadn (aX4_readUnary 61 rfl) rfl ?_
      exact pw_aret (o := some n) (aX4_readUnary 62 rfl) hok5
    · skip
      refine pw_aloadn (aX4_readUnary 26 rfl) rfl ?_
      refine pw_callV (Bs := []) (rest := []) (aX4_readUnary 27 rfl) um_RX4_48 ujX4_take wc_RX4_48.2.2.2.2 (by decide) (by decide) rfl rfl (fun d => rX4_take hkb  n5 sl5 SH5 FI5 FL5 FR5 hok5) (fun v7 n7 sl7 SH7 FI7 FL7 FR7 hok7 _ => ?_)
      show pw _ _ _ _ _ _ _ 150 _ [] _ _
      refine pw_aloadn (aX4_readUnary 28 rfl) rfl ?_
      refine pw_aloadn (aX4_readUnary 29 rfl) rfl ?_
      refine pw_callV (Bs := []) (rest := [.ref (base + n)]) (aX4_readUnary 30 rfl) um_RX4_195 ujX4_readUnary wc_RX4_195.2.2.2.2 (by decide) (by decide) rfl rfl (fun d => pw_mono (hMX4_readUnary  n7 sl7 SH7 FI7 FL7 FR7 hok7 d) (by omega)) (fun v8 n8 sl8 SH8 FI8 FL8 FR8 hok8 _ => ?_)
      show pw _ _ _ _ _ _ _ 155 _ [va_rf (h_rf base (v8)), .ref (base + n)] _ _
      refine pw_putrr (p := v8) (aX4_readUnary 31 rfl) uf_RX4_186 (fun _ _ _ => rfl) (fun t10 => ?_)
      refine pw_aloadn (aX4_readUnary 32 rfl) rfl ?_
      refine pw_dup (aX4_readUnary 33 rfl) ?_
      refine pw_getr (v := .int (FI8 110 4)) (aX4_readUnary 34 rfl) uf_RX4_36 un_RX4_36 rfl ?_
      refine pw_iconst (v := (1 : Int32)) (aX4_readUnary 35 rfl) rfl ?_
      refine pw_isub (aX4_readUnary 36 rfl) ?_
      refine pw_putri (aX4_readUnary 37 rfl) uf_RX4_36 (fun _ _ _ => rfl) (fun t11 => ?_)
      refine pw_goto (tgt := 214) (aX4_readUnary 38 rfl) (by decide) ?_
      refine pw_aloadn (aX4_readUnary 61 rfl) rfl ?_
      exact pw_aret (o := some n) (aX4_readUnary 62 rfl) (pk_t hok8 t10 (by decide))
  skip
  refine pw_case ((FI1 n 0).toInt = 37) (fun b12 => ?_) (fun b12 => ?_)
  · have et : tg = 119 := by
      have e9 : Jvm.Op.lookupswitch.offset [(5, 92), (6, 119), (11, 92), (12, 92), (13, 92), (14, 119), (37, 99), (40, 151), (45, 119), (126, 119)] (189) (37) = 99 := (by decide); rw [b12, e9] at ht; omega
    subst et
    refine pw_aloadn (aX4_readUnary 13 rfl) rfl ?_
    refine pw_callV (Bs := []) (rest := []) (aX4_readUnary 14 rfl) um_RX4_48 ujX4_take wc_RX4_48.2.2.2.2 (by decide) (by decide) rfl rfl (fun d => rX4_take hkb  n1 sl1 SH1 FI1 FL1 FR1 hok1) (fun v12 n12 sl12 SH12 FI12 FL12 FR12 hok12 _ => ?_)
    show pw _ _ _ _ _ _ _ 123 _ [] _ _
    refine pw_aloadn (aX4_readUnary 15 rfl) rfl ?_
    refine pw_aloadn (aX4_readUnary 16 rfl) rfl ?_
    refine pw_callV (Bs := []) (rest := [.ref (base + n)]) (aX4_readUnary 17 rfl) um_RX4_145 ujX4_refuseHighRegister wc_RX4_145.2.2.2.2 (by decide) (by decide) rfl rfl (fun d => rX4_refuseHighRegister hkb  n12 sl12 SH12 FI12 FL12 FR12 hok12) (fun v13 n13 sl13 SH13 FI13 FL13 FR13 hok13 _ => ?_)
    show pw _ _ _ _ _ _ _ 128 _ [.long (v13), .ref (base + n)] _ _
    refine pw_putrl (aX4_readUnary 18 rfl) uf_RX4_208 (fun _ _ _ => rfl) (fun t15 => ?_)
    refine pw_aloadn (aX4_readUnary 19 rfl) rfl ?_
    refine pw_iconst (v := (5 : Int32)) (aX4_readUnary 20 rfl) rfl ?_
    refine pw_callV (Bs := [.int ((5 : Int32))]) (rest := []) (aX4_readUnary 21 rfl) um_RX4_83 ujX4_expect wc_RX4_83.2.2.2.2 (by decide) (by decide) rfl rfl (fun d => rX4_expect hkb ((5 : Int32)) n13 sl13 SH13 FI13 (h_up FL13 n 1 (v13)) FR13 hok13) (fun v15 n15 sl15 SH15 FI15 FL15 FR15 hok15 _ => ?_)
    show pw _ _ _ _ _ _ _ 136 _ [] _ _
    refine pw_goto (tgt := 214) (aX4_readUnary 22 rfl) (by decide) ?_
    refine pw_aloadn (aX4_readUnary 61 rfl) rfl ?_
    exact pw_aret (o := some n) (aX4_readUnary 62 rfl) hok15
  skip
  refine pw_case ((FI1 n 0).toInt = 40) (fun b17 => ?_) (fun b17 => ?_)
  · have et : tg = 171 := by
      have e9 : Jvm.Op.lookupswitch.offset [(5, 92), (6, 119), (11, 92), (12, 92), (13, 92), (14, 119), (37, 99), (40, 151), (45, 119), (126, 119)] (189) (40) = 151 := (by decide); rw [b17, e9] at ht; omega
    subst et
    refine pw_aloadn (aX4_readUnary 39 rfl) rfl ?_
    refine pw_callV (Bs := []) (rest := []) (aX4_readUnary 40 rfl) um_RX4_117 ujX4_raise wc_RX4_117.2.2.2.2 (by decide) (by decide) rfl rfl (fun d => rX4_raise hkb  n1 sl1 SH1 FI1 FL1 FR1 hok1) (fun v17 n17 sl17 SH17 FI17 FL17 FR17 hok17 _ => ?_)
    show pw _ _ _ _ _ _ _ 175 _ [.int (v17)] _ _
    refine pw_ifeq (tgt := 214) (aX4_readUnary 41 rfl) (by decide) (fun b18 => ?_) (fun b18 => ?_)
    · skip
      refine pw_aloadn (aX4_readUnary 61 rfl) rfl ?_
      exact pw_aret (o := some n) (aX4_readUnary 62 rfl) hok17
    · skip
      refine pw_aloadn (aX4_readUnary 42 rfl) rfl ?_
      refine pw_callV (Bs := []) (rest := []) (aX4_readUnary 43 rfl) um_RX4_48 ujX4_take wc_RX4_48.2.2.2.2 (by decide) (by decide) rfl rfl (fun d => rX4_take hkb  n17 sl17 SH17 FI17 FL17 FR17 hok17) (fun v19 n19 sl19 SH19 FI19 FL19 FR19 hok19 _ => ?_)
      show pw _ _ _ _ _ _ _ 182 _ [] _ _
      refine pw_aloadn (aX4_readUnary 44 rfl) rfl ?_
      refine pw_aloadn (aX4_readUnary 45 rfl) rfl ?_
      refine pw_callV (Bs := []) (rest := [.ref (base + n)]) (aX4_readUnary 46 rfl) um_RX4_150 ujX4_readChoice wc_RX4_150.2.2.2.2 (by decide) (by decide) rfl rfl (fun d => pw_mono (hMX4_readChoice  n19 sl19 SH19 FI19 FL19 FR19 hok19 d) (by omega)) (fun v20 n20 sl20 SH20 FI20 FL20 FR20 hok20 _ => ?_)
      show pw _ _ _ _ _ _ _ 187 _ [va_rf (h_rf base (v20)), .ref (base + n)] _ _
      refine pw_putrr (p := v20) (aX4_readUnary 47 rfl) uf_RX4_186 (fun _ _ _ => rfl) (fun t22 => ?_)
      refine pw_aloadn (aX4_readUnary 48 rfl) rfl ?_
      refine pw_bipush (v := (41 : Int32)) (aX4_readUnary 49 rfl) rfl ?_
      refine pw_callV (Bs := [.int ((41 : Int32))]) (rest := []) (aX4_readUnary 50 rfl) um_RX4_83 ujX4_expect wc_RX4_83.2.2.2.2 (by decide) (by decide) rfl rfl (fun d => rX4_expect hkb ((41 : Int32)) n20 sl20 SH20 FI20 FL20 (h_up FR20 n 3 (v20)) (pk_t hok20 t22 (by decide))) (fun v22 n22 sl22 SH22 FI22 FL22 FR22 hok22 _ => ?_)
      show pw _ _ _ _ _ _ _ 196 _ [] _ _
      refine pw_aloadn (aX4_readUnary 51 rfl) rfl ?_
      refine pw_dup (aX4_readUnary 52 rfl) ?_
      refine pw_getr (v := .int (FI22 110 4)) (aX4_readUnary 53 rfl) uf_RX4_36 un_RX4_36 rfl ?_
      refine pw_iconst (v := (1 : Int32)) (aX4_readUnary 54 rfl) rfl ?_
      refine pw_isub (aX4_readUnary 55 rfl) ?_
      refine pw_putri (aX4_readUnary 56 rfl) uf_RX4_36 (fun _ _ _ => rfl) (fun t24 => ?_)
      refine pw_goto (tgt := 214) (aX4_readUnary 57 rfl) (by decide) ?_
      refine pw_aloadn (aX4_readUnary 61 rfl) rfl ?_
      exact pw_aret (o := some n) (aX4_readUnary 62 rfl) hok22
  skip
  have et : tg = 209 := by
    simp only [Jvm.Op.lookupswitch.offset] at ht; rw [if_neg (by omega), if_neg (by omega), if_neg (by omega), if_neg (by omega), if_neg (by omega), if_neg (by omega), if_neg (by omega), if_neg (by omega), if_neg (by omega), if_neg (by omega)] at ht; omega
  subst et
  refine pw_aloadn (aX4_readUnary 58 rfl) rfl ?_
  refine pw_iconst (v := (1 : Int32)) (aX4_readUnary 59 rfl) rfl ?_
  refine pw_callV (Bs := [.int ((1 : Int32))]) (rest := []) (aX4_readUnary 60 rfl) um_RX4_69 ujX4_refuse wc_RX4_69.2.2.2.2 (by decide) (by decide) rfl rfl (fun d => rX4_refuse hkb ((1 : Int32)) n1 sl1 SH1 FI1 FL1 FR1 hok1) (fun v24 n24 sl24 SH24 FI24 FL24 FR24 hok24 _ => ?_)
  show pw _ _ _ _ _ _ _ 214 _ [] _ _
  refine pw_aloadn (aX4_readUnary 61 rfl) rfl ?_
  exact pw_aret (o := some n) (aX4_readUnary 62 rfl) hok24
set_option maxHeartbeats 4000000 in
set_option maxRecDepth 100000 in
theorem bX4_readLevel_68 {sk : xK} {base N d : Nat} {K68 : Option Nat → Option Nat → Int32 → Int32 → Nat → Nat → (Nat → Nat × Nat) → (Nat → Nat → Int32) → (Nat → Nat → Int64) → (Nat → Nat → Option Nat) → Option Nat → hS → Prop} (hkb : x_kb sk base) (MX4_readUnary : Nat → Nat → (Nat → Nat × Nat) → (Nat → Nat → Int32) → (Nat → Nat → Int64) → (Nat → Nat → Option Nat) → Option Nat → hS → Prop) (MX4_readLevel : Int32 → Nat → Nat → (Nat → Nat × Nat) → (Nat → Nat → Int32) → (Nat → Nat → Int64) → (Nat → Nat → Option Nat) → Option Nat → hS → Prop) (MX4_readChoice : Nat → Nat → (Nat → Nat × Nat) → (Nat → Nat → Int32) → (Nat → Nat → Int64) → (Nat → Nat → Option Nat) → Option Nat → hS → Prop) (a1 : Int32) (l3o : Option Nat) (l4o : Option Nat) (l5i : Int32) (l6i : Int32) (l2o : Option Nat) (l7i : Int32) (n sl : Nat) (SH : Nat → Nat × Nat) (FI : Nat → Nat → Int32) (FL : Nat → Nat → Int64) (FR : Nat → Nat → Option Nat) (hok : pk n SH FR) (hMX4_readUnary : ∀  (n sl : Nat) (SH : Nat → Nat × Nat) (FI : Nat → Nat → Int32) (FL : Nat → Nat → Int64) (FR : Nat → Nat → Option Nat), pk n SH FR → ∀ d, pw (pj_A base) sk base (N + 1 - 1) d none 56 0 [(0, .ref (base + 110))] [] (n, sl, SH, FI, FL, FR) (MX4_readUnary  n sl SH FI FL FR)) (hMX4_readLevel : ∀ (a1 : Int32) (n sl : Nat) (SH : Nat → Nat × Nat) (FI : Nat → Nat → Int32) (FL : Nat → Nat → Int64) (FR : Nat → Nat → Option Nat), pk n SH FR → ∀ d, pw (pj_A base) sk base (N + 1 - 1) d none 54 0 [(0, .ref (base + 110)), (1, .int (a1))] [] (n, sl, SH, FI, FL, FR) (MX4_readLevel a1 n sl SH FI FL FR)) (hMX4_readChoice : ∀  (n sl : Nat) (SH : Nat → Nat × Nat) (FI : Nat → Nat → Int32) (FL : Nat → Nat → Int64) (FR : Nat → Nat → Option Nat), pk n SH FR → ∀ d, pw (pj_A base) sk base (N + 1 - 1) d none 53 0 [(0, .ref (base + 110))] [] (n, sl, SH, FI, FL, FR) (MX4_readChoice  n sl SH FI FL FR)) (hK68 : ∀ (l3o : Option Nat) (l4o : Option Nat) (l5i : Int32) (l6i : Int32) (l2o : Option Nat) (l7i : Int32) (n sl : Nat) (SH : Nat → Nat × Nat) (FI : Nat → Nat → Int32) (FL : Nat → Nat → Int64) (FR : Nat → Nat → Option Nat), pk n SH FR → pw (pj_A base) sk base N d none 54 68 [(0, .ref (base + 110)), (1, .int (a1)), (2, va_rf (h_rf base (l2o))), (3, va_rf (h_rf base (l3o))), (4, va_rf (h_rf base (l4o))), (5, .int (l5i)), (6, .int (l6i)), (7, .int (l7i))] [] (n, sl, SH, FI, FL, FR) (K68 l3o l4o l5i l6i n sl SH FI FL FR)) : pw (pj_A base) sk base (N + 1) d none 54 68 [(0, .ref (base + 110)), (1, .int (a1)), (2, va_rf (h_rf base (l2o))), (3, va_rf (h_rf base (l3o))), (4, va_rf (h_rf base (l4o))), (5, .int (l5i)), (6, .int (l6i)), (7, .int (l7i))] [] (n, sl, SH, FI, FL, FR) (BX4_readLevel_68 K68 MX4_readUnary MX4_readLevel MX4_readChoice a1 l3o l4o l5i l6i n sl SH FI FL FR) := by
  unfold BX4_readLevel_68
  refine pd_iload (aX4_readLevel 39 rfl) rfl ?_
  refine pw_iload (aX4_readLevel 40 rfl) rfl ?_
  refine pw_icge (tgt := 128) (aX4_readLevel 41 rfl) (by decide) (fun b0 => ?_) (fun b0 => ?_)
  · skip
    refine pw_aloadn (aX4_readLevel 42 rfl) rfl ?_
    refine pw_getr (v := .int (FI 110 8)) (aX4_readLevel 43 rfl) uf_RX4_51 un_RX4_51 rfl ?_
    refine pw_cf (pw_callS (As := [.int (FI 110 8)]) (rest := []) (aX4_readLevel 44 rfl) um_RX4_198 ujX4_levelOf wc_RX4_198.2.2.2.2 (by decide) rfl rfl (fun d => rX4_levelOf hkb (FI 110 8) n sl SH FI FL FR hok) (fun v1 n1 sl1 SH1 FI1 FL1 FR1 _ hC => ?_))
    obtain ⟨rfl, hC⟩ := hC; cases hC
    show pw _ _ _ _ _ _ _ 82 _ [.int (fX4_levelOf (FI 110 8) SH FI FL FR)] _ _
    refine pw_iloadn (aX4_readLevel 45 rfl) rfl ?_
    refine pw_icne (tgt := 128) (aX4_readLevel 46 rfl) (by decide) (fun b2 => ?_) (fun b2 => ?_)
    · skip
      refine pw_aloadn (aX4_readLevel 47 rfl) rfl ?_
      refine pw_getr (v := .int (FI 110 8)) (aX4_readLevel 48 rfl) uf_RX4_51 un_RX4_51 rfl ?_
      refine pw_istore (L2 := [(7, .int (FI 110 8)), (0, .ref (base + 110)), (1, .int (a1)), (2, va_rf (h_rf base (l2o))), (3, va_rf (h_rf base (l3o))), (4, va_rf (h_rf base (l4o))), (5, .int (l5i)), (6, .int (l6i))]) (aX4_readLevel 49 rfl) (by first | rfl | (simp [x_s1, x_s2, va_cat, va_ci, va_cl, va_cr, va_cn]; done) | (simp [x_s1, x_s2, va_cat, va_ci, va_cl, va_cr, va_cn]; decide)) ?_
      refine pw_aloadn (aX4_readLevel 50 rfl) rfl ?_
      refine pw_callV (Bs := []) (rest := []) (aX4_readLevel 51 rfl) um_RX4_48 ujX4_take wc_RX4_48.2.2.2.2 (by decide) (by decide) rfl rfl (fun d => rX4_take hkb  n sl SH FI FL FR hok) (fun v3 n3 sl3 SH3 FI3 FL3 FR3 hok3 _ => ?_)
      show pw _ _ _ _ _ _ _ 96 _ [] _ _
      refine pw_aload (aX4_readLevel 52 rfl) rfl ?_
      refine pw_aloadn (aX4_readLevel 53 rfl) rfl ?_
      refine pw_iloadn (aX4_readLevel 54 rfl) rfl ?_
      refine pw_iconst (v := (1 : Int32)) (aX4_readLevel 55 rfl) rfl ?_
      refine pw_iadd (aX4_readLevel 56 rfl) ?_
      refine pw_callV (Bs := [.int ((a1) + ((1 : Int32)))]) (rest := [va_rf (h_rf base (l4o))]) (aX4_readLevel 57 rfl) um_RX4_177 ujX4_readLevel wc_RX4_177.2.2.2.2 (by decide) (by decide) rfl rfl (fun d => pw_mono (hMX4_readLevel ((a1) + ((1 : Int32))) n3 sl3 SH3 FI3 FL3 FR3 hok3 d) (by omega)) (fun v4 n4 sl4 SH4 FI4 FL4 FR4 hok4 _ => ?_)
      show pw _ _ _ _ _ _ _ 105 _ [va_rf (h_rf base (v4)), va_rf (h_rf base (l4o))] _ _
      refine pw_putr (o := l4o) (p := v4) (aX4_readLevel 58 rfl) uf_RX4_202 (fun _ _ _ => rfl) (fun c6 hc6 _ tc6 => ?_)
      refine pw_aload (aX4_readLevel 59 rfl) rfl ?_
      refine pw_get (o := l4o) (v := fun c7 => va_rf (h_rf base ((h_up FR4 c6 6 (v4)) c7 6))) (aX4_readLevel 60 rfl) uf_RX4_202 un_RX4_202 (fun _ => rfl) (fun c7 hc7 _ tc7 => ?_)
      refine pw_astore (L2 := [(4, va_rf (h_rf base ((h_up FR4 c6 6 (v4)) c7 6))), (7, .int (FI 110 8)), (0, .ref (base + 110)), (1, .int (a1)), (2, va_rf (h_rf base (l2o))), (3, va_rf (h_rf base (l3o))), (5, .int (l5i)), (6, .int (l6i))]) (aX4_readLevel 61 rfl) (by first | rfl | (simp [x_s1, x_s2, va_cat, va_ci, va_cl, va_cr, va_cn]; done) | (simp [x_s1, x_s2, va_cat, va_ci, va_cl, va_cr, va_cn]; decide)) ?_
      refine pw_aload (aX4_readLevel 62 rfl) rfl ?_
      refine pw_iload (aX4_readLevel 63 rfl) rfl ?_
      refine pw_puti (o := (h_up FR4 c6 6 (v4)) c7 6) (aX4_readLevel 64 rfl) uf_RX4_204 (fun _ _ _ => rfl) (fun c8 hc8 _ tc8 => ?_)
      refine pw_iinc (v := (l6i) + (1 : Int32)) (L2 := [(6, .int ((l6i) + (1 : Int32))), (4, va_rf (h_rf base ((h_up FR4 c6 6 (v4)) c7 6))), (7, .int (FI 110 8)), (0, .ref (base + 110)), (1, .int (a1)), (2, va_rf (h_rf base (l2o))), (3, va_rf (h_rf base (l3o))), (5, .int (l5i))]) (aX4_readLevel 65 rfl) rfl rfl (by first | rfl | (simp [x_s1, x_s2, va_cat, va_ci, va_cl, va_cr, va_cn]; done) | (simp [x_s1, x_s2, va_cat, va_ci, va_cl, va_cr, va_cn]; decide)) ?_
      refine pw_goto (tgt := 68) (aX4_readLevel 66 rfl) (by decide) ?_
      exact pw_Li (L2 := [(0, .ref (base + 110)), (1, .int (a1)), (2, va_rf (h_rf base (l2o))), (3, va_rf (h_rf base (l3o))), (4, va_rf (h_rf base ((h_up FR4 c6 6 (v4)) c7 6))), (5, .int (l5i)), (6, .int ((l6i) + (1 : Int32))), (7, .int (FI 110 8))]) [6, 4, 7, 0, 1, 2, 3, 5] (hK68 (l3o) ((h_up FR4 c6 6 (v4)) c7 6) (l5i) ((l6i) + (1 : Int32)) (l2o) (FI 110 8) n4 sl4 SH4 (h_up FI4 c8 2 (FI 110 8)) FL4 (h_up FR4 c6 6 (v4)) (pk_t hok4 tc6 (by decide))) ⟨rfl, rfl, rfl, rfl, rfl, rfl, rfl, rfl, trivial⟩
    · skip
      refine pw_aloadn (aX4_readLevel 67 rfl) rfl ?_
      exact pw_aret (o := l3o) (aX4_readLevel 68 rfl) hok
  · skip
    refine pw_aloadn (aX4_readLevel 67 rfl) rfl ?_
    exact pw_aret (o := l3o) (aX4_readLevel 68 rfl) hok
theorem gX4_readLevel_68 {sk : xK} {base d : Nat}  (hkb : x_kb sk base) (MX4_readUnary : Nat → Nat → (Nat → Nat × Nat) → (Nat → Nat → Int32) → (Nat → Nat → Int64) → (Nat → Nat → Option Nat) → Option Nat → hS → Prop) (MX4_readLevel : Int32 → Nat → Nat → (Nat → Nat × Nat) → (Nat → Nat → Int32) → (Nat → Nat → Int64) → (Nat → Nat → Option Nat) → Option Nat → hS → Prop) (MX4_readChoice : Nat → Nat → (Nat → Nat × Nat) → (Nat → Nat → Int32) → (Nat → Nat → Int64) → (Nat → Nat → Option Nat) → Option Nat → hS → Prop) (a1 : Int32) (N : Nat) : (∀  (n sl : Nat) (SH : Nat → Nat × Nat) (FI : Nat → Nat → Int32) (FL : Nat → Nat → Int64) (FR : Nat → Nat → Option Nat), pk n SH FR → ∀ d, pw (pj_A base) sk base (N - 1) d none 56 0 [(0, .ref (base + 110))] [] (n, sl, SH, FI, FL, FR) (MX4_readUnary  n sl SH FI FL FR)) → (∀ (a1 : Int32) (n sl : Nat) (SH : Nat → Nat × Nat) (FI : Nat → Nat → Int32) (FL : Nat → Nat → Int64) (FR : Nat → Nat → Option Nat), pk n SH FR → ∀ d, pw (pj_A base) sk base (N - 1) d none 54 0 [(0, .ref (base + 110)), (1, .int (a1))] [] (n, sl, SH, FI, FL, FR) (MX4_readLevel a1 n sl SH FI FL FR)) → (∀  (n sl : Nat) (SH : Nat → Nat × Nat) (FI : Nat → Nat → Int32) (FL : Nat → Nat → Int64) (FR : Nat → Nat → Option Nat), pk n SH FR → ∀ d, pw (pj_A base) sk base (N - 1) d none 53 0 [(0, .ref (base + 110))] [] (n, sl, SH, FI, FL, FR) (MX4_readChoice  n sl SH FI FL FR)) →  ∀ (l3o : Option Nat) (l4o : Option Nat) (l5i : Int32) (l6i : Int32) (l2o : Option Nat) (l7i : Int32) (n sl : Nat) (SH : Nat → Nat × Nat) (FI : Nat → Nat → Int32) (FL : Nat → Nat → Int64) (FR : Nat → Nat → Option Nat), pk n SH FR → pw (pj_A base) sk base N d none 54 68 [(0, .ref (base + 110)), (1, .int (a1)), (2, va_rf (h_rf base (l2o))), (3, va_rf (h_rf base (l3o))), (4, va_rf (h_rf base (l4o))), (5, .int (l5i)), (6, .int (l6i)), (7, .int (l7i))] [] (n, sl, SH, FI, FL, FR) (GX4_readLevel_68  MX4_readUnary MX4_readLevel MX4_readChoice a1 (N + 1) l3o l4o l5i l6i n sl SH FI FL FR) := by
  induction N with
  | zero => intros; exact pw_0
  | succ N ih => intro hMX4_readUnary hMX4_readLevel hMX4_readChoice  l3o l4o l5i l6i l2o l7i n sl SH FI FL FR hok; exact bX4_readLevel_68 hkb MX4_readUnary MX4_readLevel MX4_readChoice a1 l3o l4o l5i l6i l2o l7i n sl SH FI FL FR hok hMX4_readUnary hMX4_readLevel hMX4_readChoice (ih (fun  n sl SH FI FL FR ok d => pw_mono (hMX4_readUnary  n sl SH FI FL FR ok d) (by omega)) (fun a1 n sl SH FI FL FR ok d => pw_mono (hMX4_readLevel a1 n sl SH FI FL FR ok d) (by omega)) (fun  n sl SH FI FL FR ok d => pw_mono (hMX4_readChoice  n sl SH FI FL FR ok d) (by omega)) )
theorem rX4_readLevel_68 {sk : xK} {base N d : Nat}  (hkb : x_kb sk base) (MX4_readUnary : Nat → Nat → (Nat → Nat × Nat) → (Nat → Nat → Int32) → (Nat → Nat → Int64) → (Nat → Nat → Option Nat) → Option Nat → hS → Prop) (MX4_readLevel : Int32 → Nat → Nat → (Nat → Nat × Nat) → (Nat → Nat → Int32) → (Nat → Nat → Int64) → (Nat → Nat → Option Nat) → Option Nat → hS → Prop) (MX4_readChoice : Nat → Nat → (Nat → Nat × Nat) → (Nat → Nat → Int32) → (Nat → Nat → Int64) → (Nat → Nat → Option Nat) → Option Nat → hS → Prop) (a1 : Int32) (l3o : Option Nat) (l4o : Option Nat) (l5i : Int32) (l6i : Int32) (l2o : Option Nat) (l7i : Int32) (n sl : Nat) (SH : Nat → Nat × Nat) (FI : Nat → Nat → Int32) (FL : Nat → Nat → Int64) (FR : Nat → Nat → Option Nat) (hok : pk n SH FR) (hMX4_readUnary : ∀  (n sl : Nat) (SH : Nat → Nat × Nat) (FI : Nat → Nat → Int32) (FL : Nat → Nat → Int64) (FR : Nat → Nat → Option Nat), pk n SH FR → ∀ d, pw (pj_A base) sk base (N - 1) d none 56 0 [(0, .ref (base + 110))] [] (n, sl, SH, FI, FL, FR) (MX4_readUnary  n sl SH FI FL FR)) (hMX4_readLevel : ∀ (a1 : Int32) (n sl : Nat) (SH : Nat → Nat × Nat) (FI : Nat → Nat → Int32) (FL : Nat → Nat → Int64) (FR : Nat → Nat → Option Nat), pk n SH FR → ∀ d, pw (pj_A base) sk base (N - 1) d none 54 0 [(0, .ref (base + 110)), (1, .int (a1))] [] (n, sl, SH, FI, FL, FR) (MX4_readLevel a1 n sl SH FI FL FR)) (hMX4_readChoice : ∀  (n sl : Nat) (SH : Nat → Nat × Nat) (FI : Nat → Nat → Int32) (FL : Nat → Nat → Int64) (FR : Nat → Nat → Option Nat), pk n SH FR → ∀ d, pw (pj_A base) sk base (N - 1) d none 53 0 [(0, .ref (base + 110))] [] (n, sl, SH, FI, FL, FR) (MX4_readChoice  n sl SH FI FL FR))  : pw (pj_A base) sk base N d none 54 68 [(0, .ref (base + 110)), (1, .int (a1)), (2, va_rf (h_rf base (l2o))), (3, va_rf (h_rf base (l3o))), (4, va_rf (h_rf base (l4o))), (5, .int (l5i)), (6, .int (l6i)), (7, .int (l7i))] [] (n, sl, SH, FI, FL, FR) (RX4_readLevel_68  MX4_readUnary MX4_readLevel MX4_readChoice a1 l3o l4o l5i l6i n sl SH FI FL FR) := pw_cons (gX4_readLevel_68 hkb MX4_readUnary MX4_readLevel MX4_readChoice a1 N hMX4_readUnary hMX4_readLevel hMX4_readChoice  l3o l4o l5i l6i l2o l7i n sl SH FI FL FR hok) (fun _ _ h => ⟨_, h⟩)
set_option maxHeartbeats 4000000 in
set_option maxRecDepth 100000 in
theorem rX4_readLevel_63 {sk : xK} {base N d : Nat}  (hkb : x_kb sk base) (MX4_readUnary : Nat → Nat → (Nat → Nat × Nat) → (Nat → Nat → Int32) → (Nat → Nat → Int64) → (Nat → Nat → Option Nat) → Option Nat → hS → Prop) (MX4_readLevel : Int32 → Nat → Nat → (Nat → Nat × Nat) → (Nat → Nat → Int32) → (Nat → Nat → Int64) → (Nat → Nat → Option Nat) → Option Nat → hS → Prop) (MX4_readChoice : Nat → Nat → (Nat → Nat × Nat) → (Nat → Nat → Int32) → (Nat → Nat → Int64) → (Nat → Nat → Option Nat) → Option Nat → hS → Prop) (a1 : Int32) (l3o : Option Nat) (l4o : Option Nat) (s0i : Int32) (l2o : Option Nat) (n sl : Nat) (SH : Nat → Nat × Nat) (FI : Nat → Nat → Int32) (FL : Nat → Nat → Int64) (FR : Nat → Nat → Option Nat) (hok : pk n SH FR) (hMX4_readUnary : ∀  (n sl : Nat) (SH : Nat → Nat × Nat) (FI : Nat → Nat → Int32) (FL : Nat → Nat → Int64) (FR : Nat → Nat → Option Nat), pk n SH FR → ∀ d, pw (pj_A base) sk base (N - 1) d none 56 0 [(0, .ref (base + 110))] [] (n, sl, SH, FI, FL, FR) (MX4_readUnary  n sl SH FI FL FR)) (hMX4_readLevel : ∀ (a1 : Int32) (n sl : Nat) (SH : Nat → Nat × Nat) (FI : Nat → Nat → Int32) (FL : Nat → Nat → Int64) (FR : Nat → Nat → Option Nat), pk n SH FR → ∀ d, pw (pj_A base) sk base (N - 1) d none 54 0 [(0, .ref (base + 110)), (1, .int (a1))] [] (n, sl, SH, FI, FL, FR) (MX4_readLevel a1 n sl SH FI FL FR)) (hMX4_readChoice : ∀  (n sl : Nat) (SH : Nat → Nat × Nat) (FI : Nat → Nat → Int32) (FL : Nat → Nat → Int64) (FR : Nat → Nat → Option Nat), pk n SH FR → ∀ d, pw (pj_A base) sk base (N - 1) d none 53 0 [(0, .ref (base + 110))] [] (n, sl, SH, FI, FL, FR) (MX4_readChoice  n sl SH FI FL FR))  : pw (pj_A base) sk base N d none 54 63 [(0, .ref (base + 110)), (1, .int (a1)), (2, va_rf (h_rf base (l2o))), (3, va_rf (h_rf base (l3o))), (4, va_rf (h_rf base (l4o)))] [.int (s0i)] (n, sl, SH, FI, FL, FR) (RX4_readLevel_63  MX4_readUnary MX4_readLevel MX4_readChoice a1 l3o l4o s0i n sl SH FI FL FR) := by
  unfold RX4_readLevel_63
  refine pw_istore (L2 := [(5, .int (s0i)), (0, .ref (base + 110)), (1, .int (a1)), (2, va_rf (h_rf base (l2o))), (3, va_rf (h_rf base (l3o))), (4, va_rf (h_rf base (l4o)))]) (aX4_readLevel 36 rfl) (by first | rfl | (simp [x_s1, x_s2, va_cat, va_ci, va_cl, va_cr, va_cn]; done) | (simp [x_s1, x_s2, va_cat, va_ci, va_cl, va_cr, va_cn]; decide)) ?_
  refine pw_iconst (v := (0 : Int32)) (aX4_readLevel 37 rfl) rfl ?_
  refine pw_istore (L2 := [(6, .int ((0 : Int32))), (5, .int (s0i)), (0, .ref (base + 110)), (1, .int (a1)), (2, va_rf (h_rf base (l2o))), (3, va_rf (h_rf base (l3o))), (4, va_rf (h_rf base (l4o)))]) (aX4_readLevel 38 rfl) (by first | rfl | (simp [x_s1, x_s2, va_cat, va_ci, va_cl, va_cr, va_cn]; done) | (simp [x_s1, x_s2, va_cat, va_ci, va_cl, va_cr, va_cn]; decide)) ?_
  exact pw_Li (L2 := [(0, .ref (base + 110)), (1, .int (a1)), (2, va_rf (h_rf base (l2o))), (3, va_rf (h_rf base (l3o))), (4, va_rf (h_rf base (l4o))), (5, .int (s0i)), (6, .int ((0 : Int32))), (7, .int 0)]) [6, 5, 0, 1, 2, 3, 4] (rX4_readLevel_68 hkb MX4_readUnary MX4_readLevel MX4_readChoice a1 (l3o) (l4o) (s0i) ((0 : Int32)) (l2o) 0 n sl SH FI FL FR hok (fun  n sl SH FI FL FR ok d => pw_mono (hMX4_readUnary  n sl SH FI FL FR ok d) (by omega)) (fun a1 n sl SH FI FL FR ok d => pw_mono (hMX4_readLevel a1 n sl SH FI FL FR ok d) (by omega)) (fun  n sl SH FI FL FR ok d => pw_mono (hMX4_readChoice  n sl SH FI FL FR ok d) (by omega)) ) ⟨rfl, rfl, rfl, rfl, rfl, rfl, rfl, trivial⟩
set_option maxHeartbeats 4000000 in
set_option maxRecDepth 100000 in
theorem rX4_readLevel {sk : xK} {base N d : Nat} (hkb : x_kb sk base) (MX4_readUnary : Nat → Nat → (Nat → Nat × Nat) → (Nat → Nat → Int32) → (Nat → Nat → Int64) → (Nat → Nat → Option Nat) → Option Nat → hS → Prop) (MX4_readLevel : Int32 → Nat → Nat → (Nat → Nat × Nat) → (Nat → Nat → Int32) → (Nat → Nat → Int64) → (Nat → Nat → Option Nat) → Option Nat → hS → Prop) (MX4_readChoice : Nat → Nat → (Nat → Nat × Nat) → (Nat → Nat → Int32) → (Nat → Nat → Int64) → (Nat → Nat → Option Nat) → Option Nat → hS → Prop) (a1 : Int32) (n sl : Nat) (SH : Nat → Nat × Nat) (FI : Nat → Nat → Int32) (FL : Nat → Nat → Int64) (FR : Nat → Nat → Option Nat) (hok : pk n SH FR) (hMX4_readUnary : ∀  (n sl : Nat) (SH : Nat → Nat × Nat) (FI : Nat → Nat → Int32) (FL : Nat → Nat → Int64) (FR : Nat → Nat → Option Nat), pk n SH FR → ∀ d, pw (pj_A base) sk base (N - 1) d none 56 0 [(0, .ref (base + 110))] [] (n, sl, SH, FI, FL, FR) (MX4_readUnary  n sl SH FI FL FR)) (hMX4_readLevel : ∀ (a1 : Int32) (n sl : Nat) (SH : Nat → Nat × Nat) (FI : Nat → Nat → Int32) (FL : Nat → Nat → Int64) (FR : Nat → Nat → Option Nat), pk n SH FR → ∀ d, pw (pj_A base) sk base (N - 1) d none 54 0 [(0, .ref (base + 110)), (1, .int (a1))] [] (n, sl, SH, FI, FL, FR) (MX4_readLevel a1 n sl SH FI FL FR)) (hMX4_readChoice : ∀  (n sl : Nat) (SH : Nat → Nat × Nat) (FI : Nat → Nat → Int32) (FL : Nat → Nat → Int64) (FR : Nat → Nat → Option Nat), pk n SH FR → ∀ d, pw (pj_A base) sk base (N - 1) d none 53 0 [(0, .ref (base + 110))] [] (n, sl, SH, FI, FL, FR) (MX4_readChoice  n sl SH FI FL FR)) : pw (pj_A base) sk base N d none 54 0 [(0, .ref (base + 110)), (1, .int (a1))] [] (n, sl, SH, FI, FL, FR) (RX4_readLevel MX4_readUnary MX4_readLevel MX4_readChoice a1 n sl SH FI FL FR) := by
  unfold RX4_readLevel
  refine pw_iloadn (aX4_readLevel 0 rfl) rfl ?_
  refine pw_bipush (v := (7 : Int32)) (aX4_readLevel 1 rfl) rfl ?_
  refine pw_iclt (tgt := 11) (aX4_readLevel 2 rfl) (by decide) (fun b0 => ?_) (fun b0 => ?_)
  · skip
    refine pw_aloadn (aX4_readLevel 6 rfl) rfl ?_
    refine pw_iloadn (aX4_readLevel 7 rfl) rfl ?_
    refine pw_iconst (v := (1 : Int32)) (aX4_readLevel 8 rfl) rfl ?_
    refine pw_iadd (aX4_readLevel 9 rfl) ?_
    refine pw_callV (Bs := [.int ((a1) + ((1 : Int32)))]) (rest := []) (aX4_readLevel 10 rfl) um_RX4_177 ujX4_readLevel wc_RX4_177.2.2.2.2 (by decide) (by decide) rfl rfl (fun d => pw_mono (hMX4_readLevel ((a1) + ((1 : Int32))) n sl SH FI FL FR hok d) (by omega)) (fun v1 n1 sl1 SH1 FI1 FL1 FR1 hok1 _ => ?_)
    show pw _ _ _ _ _ _ _ 18 _ [va_rf (h_rf base (v1))] _ _
    refine pw_astoren (L2 := [(2, va_rf (h_rf base (v1))), (0, .ref (base + 110)), (1, .int (a1))]) (aX4_readLevel 11 rfl) (by first | rfl | (simp [x_s1, x_s2, va_cat, va_ci, va_cl, va_cr, va_cn]; done) | (simp [x_s1, x_s2, va_cat, va_ci, va_cl, va_cr, va_cn]; decide)) ?_
    refine pw_aloadn (aX4_readLevel 12 rfl) rfl ?_
    refine pw_getr (v := .int (FI1 110 8)) (aX4_readLevel 13 rfl) uf_RX4_51 un_RX4_51 rfl ?_
    refine pw_cf (pw_callS (As := [.int (FI1 110 8)]) (rest := []) (aX4_readLevel 14 rfl) um_RX4_198 ujX4_levelOf wc_RX4_198.2.2.2.2 (by decide) rfl rfl (fun d => rX4_levelOf hkb (FI1 110 8) n1 sl1 SH1 FI1 FL1 FR1 hok1) (fun v2 n2 sl2 SH2 FI2 FL2 FR2 _ hC => ?_))
    obtain ⟨rfl, hC⟩ := hC; cases hC
    show pw _ _ _ _ _ _ _ 26 _ [.int (fX4_levelOf (FI1 110 8) SH1 FI1 FL1 FR1)] _ _
    refine pw_iloadn (aX4_readLevel 15 rfl) rfl ?_
    refine pw_iceq (tgt := 32) (aX4_readLevel 16 rfl) (by decide) (fun b3 => ?_) (fun b3 => ?_)
    · skip
      refine pw_new hok1 (aX4_readLevel 19 rfl) uw_RX4_181 (fun v4 n4 sl4 SH4 FI4 FL4 FR4 hok4 _ => ?_)
      refine pw_dup (aX4_readLevel 20 rfl) ?_
      refine pw_bipush (v := (25 : Int32)) (aX4_readLevel 21 rfl) rfl ?_
      refine pw_lconst (v := (0 : Int64)) (aX4_readLevel 22 rfl) rfl ?_
      refine pw_callN (Bs := [.int ((25 : Int32)), .long ((0 : Int64))]) (rest := [.ref (base + n1)]) (aX4_readLevel 23 rfl) um_RX4_183 ujX3_init wc_RX4_183.2.2.2.2 (by decide) rfl rfl (fun d => rX3_init hkb n1 ((25 : Int32)) ((0 : Int64)) n4 sl4 SH4 FI4 FL4 FR4 hok4) (fun v5 n5 sl5 SH5 FI5 FL5 FR5 hok5 _ => ?_)
      show pw _ _ _ _ _ _ _ 42 _ [.ref (base + n1)] _ _
      refine pw_astoren (L2 := [(3, .ref (base + n1)), (2, va_rf (h_rf base (v1))), (0, .ref (base + 110)), (1, .int (a1))]) (aX4_readLevel 24 rfl) (by first | rfl | (simp [x_s1, x_s2, va_cat, va_ci, va_cl, va_cr, va_cn]; done) | (simp [x_s1, x_s2, va_cat, va_ci, va_cl, va_cr, va_cn]; decide)) ?_
      refine pw_aloadn (aX4_readLevel 25 rfl) rfl ?_
      refine pw_aloadn (aX4_readLevel 26 rfl) rfl ?_
      refine pw_putrr (p := v1) (aX4_readLevel 27 rfl) uf_RX4_186 (fun _ _ _ => rfl) (fun t7 => ?_)
      refine pw_aloadn (aX4_readLevel 28 rfl) rfl ?_
      refine pw_astore (L2 := [(4, va_rf (h_rf base (v1))), (3, .ref (base + n1)), (2, va_rf (h_rf base (v1))), (0, .ref (base + 110)), (1, .int (a1))]) (aX4_readLevel 29 rfl) (by first | rfl | (simp [x_s1, x_s2, va_cat, va_ci, va_cl, va_cr, va_cn]; done) | (simp [x_s1, x_s2, va_cat, va_ci, va_cl, va_cr, va_cn]; decide)) ?_
      refine pw_iloadn (aX4_readLevel 30 rfl) rfl ?_
      refine pw_iconst (v := (3 : Int32)) (aX4_readLevel 31 rfl) rfl ?_
      refine pw_icne (tgt := 60) (aX4_readLevel 32 rfl) (by decide) (fun b7 => ?_) (fun b7 => ?_)
      · skip
        refine pw_iconst (v := (1 : Int32)) (aX4_readLevel 33 rfl) rfl ?_
        refine pw_goto (tgt := 63) (aX4_readLevel 34 rfl) (by decide) ?_
        exact pw_Li (L2 := [(0, .ref (base + 110)), (1, .int (a1)), (2, va_rf (h_rf base (v1))), (3, va_rf (h_rf base (some n1))), (4, va_rf (h_rf base (v1)))]) [4, 3, 2, 0, 1] (rX4_readLevel_63 hkb MX4_readUnary MX4_readLevel MX4_readChoice a1 (some n1) (v1) ((1 : Int32)) (v1) n5 sl5 SH5 FI5 FL5 (h_up FR5 n1 3 (v1)) (pk_t hok5 t7 (by decide)) (fun  n sl SH FI FL FR ok d => pw_mono (hMX4_readUnary  n sl SH FI FL FR ok d) (by omega)) (fun a1 n sl SH FI FL FR ok d => pw_mono (hMX4_readLevel a1 n sl SH FI FL FR ok d) (by omega)) (fun  n sl SH FI FL FR ok d => pw_mono (hMX4_readChoice  n sl SH FI FL FR ok d) (by omega)) ) ⟨rfl, rfl, rfl, rfl, rfl, trivial⟩
      · skip
        refine pw_sipush (v := (1000 : Int32)) (aX4_readLevel 35 rfl) rfl ?_
        exact pw_Li (L2 := [(0, .ref (base + 110)), (1, .int (a1)), (2, va_rf (h_rf base (v1))), (3, va_rf (h_rf base (some n1))), (4, va_rf (h_rf base (v1)))]) [4, 3, 2, 0, 1] (rX4_readLevel_63 hkb MX4_readUnary MX4_readLevel MX4_readChoice a1 (some n1) (v1) ((1000 : Int32)) (v1) n5 sl5 SH5 FI5 FL5 (h_up FR5 n1 3 (v1)) (pk_t hok5 t7 (by decide)) (fun  n sl SH FI FL FR ok d => pw_mono (hMX4_readUnary  n sl SH FI FL FR ok d) (by omega)) (fun a1 n sl SH FI FL FR ok d => pw_mono (hMX4_readLevel a1 n sl SH FI FL FR ok d) (by omega)) (fun  n sl SH FI FL FR ok d => pw_mono (hMX4_readChoice  n sl SH FI FL FR ok d) (by omega)) ) ⟨rfl, rfl, rfl, rfl, rfl, trivial⟩
    · skip
      refine pw_aloadn (aX4_readLevel 17 rfl) rfl ?_
      exact pw_aret (o := v1) (aX4_readLevel 18 rfl) hok1
  · skip
    refine pw_aloadn (aX4_readLevel 3 rfl) rfl ?_
    refine pw_callV (Bs := []) (rest := []) (aX4_readLevel 4 rfl) um_RX4_195 ujX4_readUnary wc_RX4_195.2.2.2.2 (by decide) (by decide) rfl rfl (fun d => pw_mono (hMX4_readUnary  n sl SH FI FL FR hok d) (by omega)) (fun v8 n8 sl8 SH8 FI8 FL8 FR8 hok8 _ => ?_)
    show pw _ _ _ _ _ _ _ 10 _ [va_rf (h_rf base (v8))] _ _
    exact pw_aret (o := v8) (aX4_readLevel 5 rfl) hok8
set_option maxHeartbeats 4000000 in
set_option maxRecDepth 100000 in
theorem rX4_readChoice {sk : xK} {base N d : Nat} (hkb : x_kb sk base) (MX4_readUnary : Nat → Nat → (Nat → Nat × Nat) → (Nat → Nat → Int32) → (Nat → Nat → Int64) → (Nat → Nat → Option Nat) → Option Nat → hS → Prop) (MX4_readLevel : Int32 → Nat → Nat → (Nat → Nat × Nat) → (Nat → Nat → Int32) → (Nat → Nat → Int64) → (Nat → Nat → Option Nat) → Option Nat → hS → Prop) (MX4_readChoice : Nat → Nat → (Nat → Nat × Nat) → (Nat → Nat → Int32) → (Nat → Nat → Int64) → (Nat → Nat → Option Nat) → Option Nat → hS → Prop) (n sl : Nat) (SH : Nat → Nat × Nat) (FI : Nat → Nat → Int32) (FL : Nat → Nat → Int64) (FR : Nat → Nat → Option Nat) (hok : pk n SH FR) (hMX4_readUnary : ∀  (n sl : Nat) (SH : Nat → Nat × Nat) (FI : Nat → Nat → Int32) (FL : Nat → Nat → Int64) (FR : Nat → Nat → Option Nat), pk n SH FR → ∀ d, pw (pj_A base) sk base (N - 1) d none 56 0 [(0, .ref (base + 110))] [] (n, sl, SH, FI, FL, FR) (MX4_readUnary  n sl SH FI FL FR)) (hMX4_readLevel : ∀ (a1 : Int32) (n sl : Nat) (SH : Nat → Nat × Nat) (FI : Nat → Nat → Int32) (FL : Nat → Nat → Int64) (FR : Nat → Nat → Option Nat), pk n SH FR → ∀ d, pw (pj_A base) sk base (N - 1) d none 54 0 [(0, .ref (base + 110)), (1, .int (a1))] [] (n, sl, SH, FI, FL, FR) (MX4_readLevel a1 n sl SH FI FL FR)) (hMX4_readChoice : ∀  (n sl : Nat) (SH : Nat → Nat × Nat) (FI : Nat → Nat → Int32) (FL : Nat → Nat → Int64) (FR : Nat → Nat → Option Nat), pk n SH FR → ∀ d, pw (pj_A base) sk base (N - 1) d none 53 0 [(0, .ref (base + 110))] [] (n, sl, SH, FI, FL, FR) (MX4_readChoice  n sl SH FI FL FR)) : pw (pj_A base) sk base N d none 53 0 [(0, .ref (base + 110))] [] (n, sl, SH, FI, FL, FR) (RX4_readChoice MX4_readUnary MX4_readLevel MX4_readChoice n sl SH FI FL FR) := by
  unfold RX4_readChoice
  refine pw_aloadn (aX4_readChoice 0 rfl) rfl ?_
  refine pw_iconst (v := (0 : Int32)) (aX4_readChoice 1 rfl) rfl ?_
  refine pw_callV (Bs := [.int ((0 : Int32))]) (rest := []) (aX4_readChoice 2 rfl) um_RX4_177 ujX4_readLevel wc_RX4_177.2.2.2.2 (by decide) (by decide) rfl rfl (fun d => pw_mono (hMX4_readLevel ((0 : Int32)) n sl SH FI FL FR hok d) (by omega)) (fun v0 n0 sl0 SH0 FI0 FL0 FR0 hok0 _ => ?_)
  show pw _ _ _ _ _ _ _ 5 _ [va_rf (h_rf base (v0))] _ _
  refine pw_astoren (L2 := [(1, va_rf (h_rf base (v0))), (0, .ref (base + 110))]) (aX4_readChoice 3 rfl) (by first | rfl | (simp [x_s1, x_s2, va_cat, va_ci, va_cl, va_cr, va_cn]; done) | (simp [x_s1, x_s2, va_cat, va_ci, va_cl, va_cr, va_cn]; decide)) ?_
  refine pw_aloadn (aX4_readChoice 4 rfl) rfl ?_
  refine pw_getr (v := .int (FI0 110 8)) (aX4_readChoice 5 rfl) uf_RX4_51 un_RX4_51 rfl ?_
  refine pw_bipush (v := (63 : Int32)) (aX4_readChoice 6 rfl) rfl ?_
  refine pw_icne (tgt := 22) (aX4_readChoice 7 rfl) (by decide) (fun b1 => ?_) (fun b1 => ?_)
  · skip
    refine pw_aloadn (aX4_readChoice 8 rfl) rfl ?_
    refine pw_callV (Bs := []) (rest := []) (aX4_readChoice 9 rfl) um_RX4_117 ujX4_raise wc_RX4_117.2.2.2.2 (by decide) (by decide) rfl rfl (fun d => rX4_raise hkb  n0 sl0 SH0 FI0 FL0 FR0 hok0) (fun v2 n2 sl2 SH2 FI2 FL2 FR2 hok2 _ => ?_)
    show pw _ _ _ _ _ _ _ 19 _ [.int (v2)] _ _
    refine pw_ifne (tgt := 24) (aX4_readChoice 10 rfl) (by decide) (fun b3 => ?_) (fun b3 => ?_)
    · skip
      refine pw_aloadn (aX4_readChoice 11 rfl) rfl ?_
      exact pw_aret (o := v0) (aX4_readChoice 12 rfl) hok2
    · skip
      refine pw_new hok2 (aX4_readChoice 13 rfl) uw_RX4_181 (fun v4 n4 sl4 SH4 FI4 FL4 FR4 hok4 _ => ?_)
      refine pw_dup (aX4_readChoice 14 rfl) ?_
      refine pw_bipush (v := (63 : Int32)) (aX4_readChoice 15 rfl) rfl ?_
      refine pw_lconst (v := (0 : Int64)) (aX4_readChoice 16 rfl) rfl ?_
      refine pw_callN (Bs := [.int ((63 : Int32)), .long ((0 : Int64))]) (rest := [.ref (base + n2)]) (aX4_readChoice 17 rfl) um_RX4_183 ujX3_init wc_RX4_183.2.2.2.2 (by decide) rfl rfl (fun d => rX3_init hkb n2 ((63 : Int32)) ((0 : Int64)) n4 sl4 SH4 FI4 FL4 FR4 hok4) (fun v5 n5 sl5 SH5 FI5 FL5 FR5 hok5 _ => ?_)
      show pw _ _ _ _ _ _ _ 34 _ [.ref (base + n2)] _ _
      refine pw_astoren (L2 := [(2, .ref (base + n2)), (1, va_rf (h_rf base (v0))), (0, .ref (base + 110))]) (aX4_readChoice 18 rfl) (by first | rfl | (simp [x_s1, x_s2, va_cat, va_ci, va_cl, va_cr, va_cn]; done) | (simp [x_s1, x_s2, va_cat, va_ci, va_cl, va_cr, va_cn]; decide)) ?_
      refine pw_aloadn (aX4_readChoice 19 rfl) rfl ?_
      refine pw_aloadn (aX4_readChoice 20 rfl) rfl ?_
      refine pw_putrr (p := v0) (aX4_readChoice 21 rfl) uf_RX4_186 (fun _ _ _ => rfl) (fun t7 => ?_)
      refine pw_aloadn (aX4_readChoice 22 rfl) rfl ?_
      refine pw_callV (Bs := []) (rest := []) (aX4_readChoice 23 rfl) um_RX4_48 ujX4_take wc_RX4_48.2.2.2.2 (by decide) (by decide) rfl rfl (fun d => rX4_take hkb  n5 sl5 SH5 FI5 FL5 (h_up FR5 n2 3 (v0)) (pk_t hok5 t7 (by decide))) (fun v7 n7 sl7 SH7 FI7 FL7 FR7 hok7 _ => ?_)
      show pw _ _ _ _ _ _ _ 44 _ [] _ _
      refine pw_aloadn (aX4_readChoice 24 rfl) rfl ?_
      refine pw_aloadn (aX4_readChoice 25 rfl) rfl ?_
      refine pw_callV (Bs := []) (rest := [.ref (base + n2)]) (aX4_readChoice 26 rfl) um_RX4_150 ujX4_readChoice wc_RX4_150.2.2.2.2 (by decide) (by decide) rfl rfl (fun d => pw_mono (hMX4_readChoice  n7 sl7 SH7 FI7 FL7 FR7 hok7 d) (by omega)) (fun v8 n8 sl8 SH8 FI8 FL8 FR8 hok8 _ => ?_)
      show pw _ _ _ _ _ _ _ 49 _ [va_rf (h_rf base (v8)), .ref (base + n2)] _ _
      refine pw_putrr (p := v8) (aX4_readChoice 27 rfl) uf_RX4_189 (fun _ _ _ => rfl) (fun t10 => ?_)
      refine pw_aloadn (aX4_readChoice 28 rfl) rfl ?_
      refine pw_bipush (v := (58 : Int32)) (aX4_readChoice 29 rfl) rfl ?_
      refine pw_callV (Bs := [.int ((58 : Int32))]) (rest := []) (aX4_readChoice 30 rfl) um_RX4_83 ujX4_expect wc_RX4_83.2.2.2.2 (by decide) (by decide) rfl rfl (fun d => rX4_expect hkb ((58 : Int32)) n8 sl8 SH8 FI8 FL8 (h_up FR8 n2 4 (v8)) (pk_t hok8 t10 (by decide))) (fun v10 n10 sl10 SH10 FI10 FL10 FR10 hok10 _ => ?_)
      show pw _ _ _ _ _ _ _ 58 _ [] _ _
      refine pw_aloadn (aX4_readChoice 31 rfl) rfl ?_
      refine pw_aloadn (aX4_readChoice 32 rfl) rfl ?_
      refine pw_callV (Bs := []) (rest := [.ref (base + n2)]) (aX4_readChoice 33 rfl) um_RX4_150 ujX4_readChoice wc_RX4_150.2.2.2.2 (by decide) (by decide) rfl rfl (fun d => pw_mono (hMX4_readChoice  n10 sl10 SH10 FI10 FL10 FR10 hok10 d) (by omega)) (fun v11 n11 sl11 SH11 FI11 FL11 FR11 hok11 _ => ?_)
      show pw _ _ _ _ _ _ _ 63 _ [va_rf (h_rf base (v11)), .ref (base + n2)] _ _
      refine pw_putrr (p := v11) (aX4_readChoice 34 rfl) uf_RX4_192 (fun _ _ _ => rfl) (fun t13 => ?_)
      refine pw_aloadn (aX4_readChoice 35 rfl) rfl ?_
      refine pw_dup (aX4_readChoice 36 rfl) ?_
      refine pw_getr (v := .int (FI11 110 4)) (aX4_readChoice 37 rfl) uf_RX4_36 un_RX4_36 rfl ?_
      refine pw_iconst (v := (1 : Int32)) (aX4_readChoice 38 rfl) rfl ?_
      refine pw_isub (aX4_readChoice 39 rfl) ?_
      refine pw_putri (aX4_readChoice 40 rfl) uf_RX4_36 (fun _ _ _ => rfl) (fun t14 => ?_)
      refine pw_aloadn (aX4_readChoice 41 rfl) rfl ?_
      exact pw_aret (o := some n2) (aX4_readChoice 42 rfl) (pk_t hok11 t13 (by decide))
  · skip
    refine pw_aloadn (aX4_readChoice 11 rfl) rfl ?_
    exact pw_aret (o := v0) (aX4_readChoice 12 rfl) hok0
theorem qX4 {sk : xK} {base : Nat} (hkb : x_kb sk base) (N : Nat) : (∀  (n sl : Nat) (SH : Nat → Nat × Nat) (FI : Nat → Nat → Int32) (FL : Nat → Nat → Int64) (FR : Nat → Nat → Option Nat), pk n SH FR → ∀ d, pw (pj_A base) sk base N d none 56 0 [(0, .ref (base + 110))] [] (n, sl, SH, FI, FL, FR) (QX4 (N + 1) 0 0 n sl SH FI FL FR)) ∧ (∀ (a1 : Int32) (n sl : Nat) (SH : Nat → Nat × Nat) (FI : Nat → Nat → Int32) (FL : Nat → Nat → Int64) (FR : Nat → Nat → Option Nat), pk n SH FR → ∀ d, pw (pj_A base) sk base N d none 54 0 [(0, .ref (base + 110)), (1, .int (a1))] [] (n, sl, SH, FI, FL, FR) (QX4 (N + 1) 1 a1 n sl SH FI FL FR)) ∧ (∀  (n sl : Nat) (SH : Nat → Nat × Nat) (FI : Nat → Nat → Int32) (FL : Nat → Nat → Int64) (FR : Nat → Nat → Option Nat), pk n SH FR → ∀ d, pw (pj_A base) sk base N d none 53 0 [(0, .ref (base + 110))] [] (n, sl, SH, FI, FL, FR) (QX4 (N + 1) 2 0 n sl SH FI FL FR)) := by
  induction N with
  | zero => exact ⟨by intros; exact pw_0, by intros; exact pw_0, by intros; exact pw_0⟩
  | succ N ih => exact ⟨fun  n sl SH FI FL FR hok d => rX4_readUnary (N := N + 1) hkb _ _ _  n sl SH FI FL FR hok ih.1 ih.2.1 ih.2.2, fun a1 n sl SH FI FL FR hok d => rX4_readLevel (N := N + 1) hkb _ _ _ a1 n sl SH FI FL FR hok ih.1 ih.2.1 ih.2.2, fun  n sl SH FI FL FR hok d => rX4_readChoice (N := N + 1) hkb _ _ _  n sl SH FI FL FR hok ih.1 ih.2.1 ih.2.2⟩
theorem rX4_readUnary_ {sk : xK} {base N d : Nat} (hkb : x_kb sk base)  (n sl : Nat) (SH : Nat → Nat × Nat) (FI : Nat → Nat → Int32) (FL : Nat → Nat → Int64) (FR : Nat → Nat → Option Nat) (hok : pk n SH FR) : pw (pj_A base) sk base N d none 56 0 [(0, .ref (base + 110))] [] (n, sl, SH, FI, FL, FR) (RX4_readUnary_  n sl SH FI FL FR) := pw_cons ((qX4 hkb N).1  n sl SH FI FL FR hok d) (fun _ _ h => ⟨_, h⟩)
theorem rX4_readLevel_ {sk : xK} {base N d : Nat} (hkb : x_kb sk base) (a1 : Int32) (n sl : Nat) (SH : Nat → Nat × Nat) (FI : Nat → Nat → Int32) (FL : Nat → Nat → Int64) (FR : Nat → Nat → Option Nat) (hok : pk n SH FR) : pw (pj_A base) sk base N d none 54 0 [(0, .ref (base + 110)), (1, .int (a1))] [] (n, sl, SH, FI, FL, FR) (RX4_readLevel_ a1 n sl SH FI FL FR) := pw_cons ((qX4 hkb N).2.1 a1 n sl SH FI FL FR hok d) (fun _ _ h => ⟨_, h⟩)
theorem rX4_readChoice_ {sk : xK} {base N d : Nat} (hkb : x_kb sk base)  (n sl : Nat) (SH : Nat → Nat × Nat) (FI : Nat → Nat → Int32) (FL : Nat → Nat → Int64) (FR : Nat → Nat → Option Nat) (hok : pk n SH FR) : pw (pj_A base) sk base N d none 53 0 [(0, .ref (base + 110))] [] (n, sl, SH, FI, FL, FR) (RX4_readChoice_  n sl SH FI FL FR) := pw_cons ((qX4 hkb N).2.2  n sl SH FI FL FR hok d) (fun _ _ h => ⟨_, h⟩)
set_option maxHeartbeats 4000000 in
set_option maxRecDepth 100000 in
theorem rJ7_checkLength_df160 {sk : xK} {base N d : Nat} (hkb : x_kb sk base) (a1 : Int32) (a2 : Int32) (n sl : Nat) (SH : Nat → Nat × Nat) (FI : Nat → Nat → Int32) (FL : Nat → Nat → Int64) (FR : Nat → Nat → Option Nat) (hok : pk n SH FR)  : pw pj_V sk base N d none 294 0 [(0, .int (a1)), (1, .int (a2))] [] (n, sl, SH, FI, FL, FR) (RJ7_checkLength_df160 a1 a2 n sl SH FI FL FR) := by
  unfold RJ7_checkLength_df160
  refine pw_iloadn (aJ7_checkLength_df160 0 rfl) rfl ?_
  refine pw_iloadn (aJ7_checkLength_df160 1 rfl) rfl ?_
  refine pw_icge (tgt := 37) (aJ7_checkLength_df160 2 rfl) (by decide) (fun b0 => ?_) (fun b0 => ?_)
  · skip
    exact pw_nonew (aJ7_checkLength_df160 3 rfl) uo_RJ7_43
  · skip
    exact pw_vret (aJ7_checkLength_df160 15 rfl) hok
set_option maxHeartbeats 4000000 in
set_option maxRecDepth 100000 in
theorem rJ7_copyOf_59c91 {sk : xK} {base N d : Nat} (hkb : x_kb sk base) (a1 : Option Nat) (a2 : Int32) (n sl : Nat) (SH : Nat → Nat × Nat) (FI : Nat → Nat → Int32) (FL : Nat → Nat → Int64) (FR : Nat → Nat → Option Nat) (hok : pk n SH FR)  : pw (pj_A base) sk base N d none 297 0 [(0, va_rf (h_rf base (a1))), (1, .int (a2))] [] (n, sl, SH, FI, FL, FR) (RJ7_copyOf_59c91 a1 a2 n sl SH FI FL FR) := by
  unfold RJ7_copyOf_59c91
  refine pw_iloadn (aJ7_copyOf_59c91 0 rfl) rfl ?_
  refine pw_aloadn (aJ7_copyOf_59c91 1 rfl) rfl ?_
  refine pw_alen hkb (o := a1) (aJ7_copyOf_59c91 2 rfl) (fun c1 hc1 _ => ?_)
  refine pw_icne (tgt := 14) (aJ7_copyOf_59c91 3 rfl) (by decide) (fun b1 => ?_) (fun b1 => ?_)
  · skip
    refine pw_aloadn (aJ7_copyOf_59c91 4 rfl) rfl ?_
    refine pw_clone (o := a1) hok (aJ7_copyOf_59c91 5 rfl) um_RJ7_316 (fun c4 hc4 v2 n2 sl2 SH2 FI2 FL2 FR2 hok2 _ => ?_)
    refine pw_cast (aJ7_copyOf_59c91 6 rfl) ?_
    exact pw_aret (o := some n) (aJ7_copyOf_59c91 7 rfl) hok2
  · skip
    refine pw_iloadn (aJ7_copyOf_59c91 8 rfl) rfl ?_
    refine pw_newa (k := 0) (zz := (a2).toInt.toNat) hok (aJ7_copyOf_59c91 9 rfl) rfl rfl (fun v4 n4 sl4 SH4 FI4 FL4 FR4 hok4 _ => ?_)
    refine pw_astoren (L2 := [(2, .ref (base + n)), (0, va_rf (h_rf base (a1))), (1, .int (a2))]) (aJ7_copyOf_59c91 10 rfl) (by first | rfl | (simp [x_s1, x_s2, va_cat, va_ci, va_cl, va_cr, va_cn]; done) | (simp [x_s1, x_s2, va_cat, va_ci, va_cl, va_cr, va_cn]; decide)) ?_
    refine pw_aloadn (aJ7_copyOf_59c91 11 rfl) rfl ?_
    refine pw_iconst (v := (0 : Int32)) (aJ7_copyOf_59c91 12 rfl) rfl ?_
    refine pw_aloadn (aJ7_copyOf_59c91 13 rfl) rfl ?_
    refine pw_iconst (v := (0 : Int32)) (aJ7_copyOf_59c91 14 rfl) rfl ?_
    refine pw_aloadn (aJ7_copyOf_59c91 15 rfl) rfl ?_
    refine pw_alen hkb (o := a1) (aJ7_copyOf_59c91 16 rfl) (fun c6 hc6 _ => ?_)
    refine pw_iloadn (aJ7_copyOf_59c91 17 rfl) rfl ?_
    refine pw_cf (pw_callS (As := [.int (Int32.ofNat (SH4 c6).2), .int (a2)]) (rest := [.int ((0 : Int32)), .ref (base + n), .int ((0 : Int32)), va_rf (h_rf base (a1))]) (aJ7_copyOf_59c91 18 rfl) um_RJ7_304 ujJ9_min_7cf53 wc_RJ7_304.2.2.2.2 (by decide) rfl rfl (fun d => rJ9_min_7cf53 hkb (Int32.ofNat (SH4 c6).2) (a2) n4 sl4 SH4 FI4 FL4 FR4 hok4) (fun v6 n6 sl6 SH6 FI6 FL6 FR6 _ hC => ?_))
    obtain ⟨rfl, hC⟩ := hC; cases hC
    show pw _ _ _ _ _ _ _ 28 _ [.int (fJ9_min_7cf53 (Int32.ofNat (SH4 c6).2) (a2) SH4 FI4 FL4 FR4), .int ((0 : Int32)), .ref (base + n), .int ((0 : Int32)), va_rf (h_rf base (a1))] _ _
    refine pw_cpy (o0 := a1) (o1 := some n) hok4 (aJ7_copyOf_59c91 19 rfl) um_RJ7_150 (fun c9 c10 hc9 hc10 v7 n7 sl7 SH7 FI7 FL7 FR7 hok7 _ => ?_)
    refine pw_aloadn (aJ7_copyOf_59c91 20 rfl) rfl ?_
    exact pw_aret (o := some n) (aJ7_copyOf_59c91 21 rfl) hok7
set_option maxHeartbeats 4000000 in
set_option maxRecDepth 100000 in
theorem rJ7_copyOfRangeInt_feecc {sk : xK} {base N d : Nat} (hkb : x_kb sk base) (a1 : Option Nat) (a2 : Int32) (a3 : Int32) (n sl : Nat) (SH : Nat → Nat × Nat) (FI : Nat → Nat → Int32) (FL : Nat → Nat → Int64) (FR : Nat → Nat → Option Nat) (hok : pk n SH FR)  : pw (pj_A base) sk base N d none 295 0 [(0, va_rf (h_rf base (a1))), (1, .int (a2)), (2, .int (a3))] [] (n, sl, SH, FI, FL, FR) (RJ7_copyOfRangeInt_feecc a1 a2 a3 n sl SH FI FL FR) := by
  unfold RJ7_copyOfRangeInt_feecc
  refine pw_iloadn (aJ7_copyOfRangeInt_feecc 0 rfl) rfl ?_
  refine pw_iloadn (aJ7_copyOfRangeInt_feecc 1 rfl) rfl ?_
  refine pw_callS (As := [.int (a2), .int (a3)]) (rest := []) (aJ7_copyOfRangeInt_feecc 2 rfl) um_RJ7_343 ujJ7_checkLength_df160 wc_RJ7_343.2.2.2.2 (by decide) rfl rfl (fun d => rJ7_checkLength_df160 hkb (a2) (a3) n sl SH FI FL FR hok) (fun v0 n0 sl0 SH0 FI0 FL0 FR0 hok0 _ => ?_)
  show pw _ _ _ _ _ _ _ 5 _ [] _ _
  refine pw_iloadn (aJ7_copyOfRangeInt_feecc 3 rfl) rfl ?_
  refine pw_iloadn (aJ7_copyOfRangeInt_feecc 4 rfl) rfl ?_
  refine pw_isub (aJ7_copyOfRangeInt_feecc 5 rfl) ?_
  refine pw_istoren (L2 := [(3, .int ((a3) - (a2))), (0, va_rf (h_rf base (a1))), (1, .int (a2)), (2, .int (a3))]) (aJ7_copyOfRangeInt_feecc 6 rfl) (by first | rfl | (simp [x_s1, x_s2, va_cat, va_ci, va_cl, va_cr, va_cn]; done) | (simp [x_s1, x_s2, va_cat, va_ci, va_cl, va_cr, va_cn]; decide)) ?_
  refine pw_iloadn (aJ7_copyOfRangeInt_feecc 7 rfl) rfl ?_
  refine pw_newa (k := 0) (zz := ((a3) - (a2)).toInt.toNat) hok0 (aJ7_copyOfRangeInt_feecc 8 rfl) rfl rfl (fun v1 n1 sl1 SH1 FI1 FL1 FR1 hok1 _ => ?_)
  refine pw_astore (L2 := [(4, .ref (base + n0)), (3, .int ((a3) - (a2))), (0, va_rf (h_rf base (a1))), (1, .int (a2)), (2, .int (a3))]) (aJ7_copyOfRangeInt_feecc 9 rfl) (by first | rfl | (simp [x_s1, x_s2, va_cat, va_ci, va_cl, va_cr, va_cn]; done) | (simp [x_s1, x_s2, va_cat, va_ci, va_cl, va_cr, va_cn]; decide)) ?_
  refine pw_aloadn (aJ7_copyOfRangeInt_feecc 10 rfl) rfl ?_
  refine pw_iloadn (aJ7_copyOfRangeInt_feecc 11 rfl) rfl ?_
  refine pw_aload (aJ7_copyOfRangeInt_feecc 12 rfl) rfl ?_
  refine pw_iconst (v := (0 : Int32)) (aJ7_copyOfRangeInt_feecc 13 rfl) rfl ?_
  refine pw_aloadn (aJ7_copyOfRangeInt_feecc 14 rfl) rfl ?_
  refine pw_alen hkb (o := a1) (aJ7_copyOfRangeInt_feecc 15 rfl) (fun c3 hc3 _ => ?_)
  refine pw_iloadn (aJ7_copyOfRangeInt_feecc 16 rfl) rfl ?_
  refine pw_isub (aJ7_copyOfRangeInt_feecc 17 rfl) ?_
  refine pw_iloadn (aJ7_copyOfRangeInt_feecc 18 rfl) rfl ?_
  refine pw_cf (pw_callS (As := [.int ((Int32.ofNat (SH1 c3).2) - (a2)), .int ((a3) - (a2))]) (rest := [.int ((0 : Int32)), .ref (base + n0), .int (a2), va_rf (h_rf base (a1))]) (aJ7_copyOfRangeInt_feecc 19 rfl) um_RJ7_304 ujJ9_min_7cf53 wc_RJ7_304.2.2.2.2 (by decide) rfl rfl (fun d => rJ9_min_7cf53 hkb ((Int32.ofNat (SH1 c3).2) - (a2)) ((a3) - (a2)) n1 sl1 SH1 FI1 FL1 FR1 hok1) (fun v3 n3 sl3 SH3 FI3 FL3 FR3 _ hC => ?_))
  obtain ⟨rfl, hC⟩ := hC; cases hC
  show pw _ _ _ _ _ _ _ 27 _ [.int (fJ9_min_7cf53 ((Int32.ofNat (SH1 c3).2) - (a2)) ((a3) - (a2)) SH1 FI1 FL1 FR1), .int ((0 : Int32)), .ref (base + n0), .int (a2), va_rf (h_rf base (a1))] _ _
  refine pw_cpy (o0 := a1) (o1 := some n0) hok1 (aJ7_copyOfRangeInt_feecc 20 rfl) um_RJ7_150 (fun c6 c7 hc6 hc7 v4 n4 sl4 SH4 FI4 FL4 FR4 hok4 _ => ?_)
  refine pw_aload (aJ7_copyOfRangeInt_feecc 21 rfl) rfl ?_
  exact pw_aret (o := some n0) (aJ7_copyOfRangeInt_feecc 22 rfl) hok4
set_option maxHeartbeats 4000000 in
set_option maxRecDepth 100000 in
theorem rJ7_copyOfRange_feecc {sk : xK} {base N d : Nat} (hkb : x_kb sk base) (a1 : Option Nat) (a2 : Int32) (a3 : Int32) (n sl : Nat) (SH : Nat → Nat × Nat) (FI : Nat → Nat → Int32) (FL : Nat → Nat → Int64) (FR : Nat → Nat → Option Nat) (hok : pk n SH FR)  : pw (pj_A base) sk base N d none 296 0 [(0, va_rf (h_rf base (a1))), (1, .int (a2)), (2, .int (a3))] [] (n, sl, SH, FI, FL, FR) (RJ7_copyOfRange_feecc a1 a2 a3 n sl SH FI FL FR) := by
  unfold RJ7_copyOfRange_feecc
  refine pw_iloadn (aJ7_copyOfRange_feecc 0 rfl) rfl ?_
  refine pw_ifne (tgt := 10) (aJ7_copyOfRange_feecc 1 rfl) (by decide) (fun b0 => ?_) (fun b0 => ?_)
  · skip
    refine pw_iloadn (aJ7_copyOfRange_feecc 2 rfl) rfl ?_
    refine pw_aloadn (aJ7_copyOfRange_feecc 3 rfl) rfl ?_
    refine pw_alen hkb (o := a1) (aJ7_copyOfRange_feecc 4 rfl) (fun c2 hc2 _ => ?_)
    refine pw_iceq (tgt := 17) (aJ7_copyOfRange_feecc 5 rfl) (by decide) (fun b2 => ?_) (fun b2 => ?_)
    · skip
      refine pw_aloadn (aJ7_copyOfRange_feecc 11 rfl) rfl ?_
      refine pw_clone (o := a1) hok (aJ7_copyOfRange_feecc 12 rfl) um_RJ7_316 (fun c5 hc5 v3 n3 sl3 SH3 FI3 FL3 FR3 hok3 _ => ?_)
      refine pw_cast (aJ7_copyOfRange_feecc 13 rfl) ?_
      exact pw_aret (o := some n) (aJ7_copyOfRange_feecc 14 rfl) hok3
    · skip
      refine pw_aloadn (aJ7_copyOfRange_feecc 6 rfl) rfl ?_
      refine pw_iloadn (aJ7_copyOfRange_feecc 7 rfl) rfl ?_
      refine pw_iloadn (aJ7_copyOfRange_feecc 8 rfl) rfl ?_
      refine pw_callS (As := [va_rf (h_rf base (a1)), .int (a2), .int (a3)]) (L2 := [(0, va_rf (h_rf base (a1))), (1, .int (a2)), (2, .int (a3))]) (rest := []) (aJ7_copyOfRange_feecc 9 rfl) um_RJ7_351 ujJ7_copyOfRangeInt_feecc wc_RJ7_351.2.2.2.2 (by decide) rfl (by first | rfl | simp [lv_args, va_cat, va_ci, va_cl, va_cr, va_cn]) (fun d => rJ7_copyOfRangeInt_feecc hkb (a1) (a2) (a3) n sl SH FI FL FR hok) (fun v5 n5 sl5 SH5 FI5 FL5 FR5 hok5 _ => ?_)
      show pw _ _ _ _ _ _ _ 16 _ [va_rf (h_rf base (v5))] _ _
      exact pw_aret (o := v5) (aJ7_copyOfRange_feecc 10 rfl) hok5
  · skip
    refine pw_aloadn (aJ7_copyOfRange_feecc 6 rfl) rfl ?_
    refine pw_iloadn (aJ7_copyOfRange_feecc 7 rfl) rfl ?_
    refine pw_iloadn (aJ7_copyOfRange_feecc 8 rfl) rfl ?_
    refine pw_callS (As := [va_rf (h_rf base (a1)), .int (a2), .int (a3)]) (L2 := [(0, va_rf (h_rf base (a1))), (1, .int (a2)), (2, .int (a3))]) (rest := []) (aJ7_copyOfRange_feecc 9 rfl) um_RJ7_351 ujJ7_copyOfRangeInt_feecc wc_RJ7_351.2.2.2.2 (by decide) rfl (by first | rfl | simp [lv_args, va_cat, va_ci, va_cl, va_cr, va_cn]) (fun d => rJ7_copyOfRangeInt_feecc hkb (a1) (a2) (a3) n sl SH FI FL FR hok) (fun v6 n6 sl6 SH6 FI6 FL6 FR6 hok6 _ => ?_)
    show pw _ _ _ _ _ _ _ 16 _ [va_rf (h_rf base (v6))] _ _
    exact pw_aret (o := v6) (aJ7_copyOfRange_feecc 10 rfl) hok6
set_option maxHeartbeats 4000000 in
set_option maxRecDepth 100000 in
theorem rX7_letters {sk : xK} {base N d : Nat} (hkb : x_kb sk base) (a1 : Int32) (n sl : Nat) (SH : Nat → Nat × Nat) (FI : Nat → Nat → Int32) (FL : Nat → Nat → Int64) (FR : Nat → Nat → Option Nat) (hok : pk n SH FR)  : pw (pj_A base) sk base N d none 77 0 [(0, .ref (base + 111)), (1, .int (a1))] [] (n, sl, SH, FI, FL, FR) (RX7_letters a1 n sl SH FI FL FR) := by
  unfold RX7_letters
  refine pw_iloadn (aX7_letters 0 rfl) rfl ?_
  refine pw_iflt (tgt := 41) (aX7_letters 1 rfl) (by decide) (fun b0 => ?_) (fun b0 => ?_)
  · skip
    refine pw_iconst (v := (0 : Int32)) (aX7_letters 23 rfl) rfl ?_
    refine pw_newa (k := 0) (zz := 0) hok (aX7_letters 24 rfl) rfl rfl (fun v1 n1 sl1 SH1 FI1 FL1 FR1 hok1 _ => ?_)
    exact pw_aret (o := some n) (aX7_letters 25 rfl) hok1
  · skip
    refine pw_iloadn (aX7_letters 2 rfl) rfl ?_
    refine pw_aloadn (aX7_letters 3 rfl) rfl ?_
    refine pw_getr (v := .int (FI 111 4)) (aX7_letters 4 rfl) uf_RX7_41 un_RX7_41 rfl ?_
    refine pw_icge (tgt := 41) (aX7_letters 5 rfl) (by decide) (fun b2 => ?_) (fun b2 => ?_)
    · skip
      refine pw_aloadn (aX7_letters 6 rfl) rfl ?_
      refine pw_getr (v := .ref (base + 115)) (aX7_letters 7 rfl) uf_RX7_22 un_RX7_22 (congrArg (fun r => va_rf (h_rf base r)) (q111_3 (hok).2.1)) ?_
      refine pw_iloadn (aX7_letters 8 rfl) rfl ?_
      refine pw_ialdr (c := 115) (ix := (a1).toInt.toNat) (aX7_letters 9 rfl) rfl (fun _ => ?_)
      refine pw_aloadn (aX7_letters 10 rfl) rfl ?_
      refine pw_getr (v := va_rf (h_rf base (FR 111 5))) (aX7_letters 11 rfl) uf_RX7_25 un_RX7_25 rfl ?_
      refine pw_alen hkb (o := FR 111 5) (aX7_letters 12 rfl) (fun c4 hc4 _ => ?_)
      refine pw_icgt (tgt := 41) (aX7_letters 13 rfl) (by decide) (fun b4 => ?_) (fun b4 => ?_)
      · skip
        refine pw_iconst (v := (0 : Int32)) (aX7_letters 23 rfl) rfl ?_
        refine pw_newa (k := 0) (zz := 0) hok (aX7_letters 24 rfl) rfl rfl (fun v5 n5 sl5 SH5 FI5 FL5 FR5 hok5 _ => ?_)
        exact pw_aret (o := some n) (aX7_letters 25 rfl) hok5
      · skip
        refine pw_aloadn (aX7_letters 14 rfl) rfl ?_
        refine pw_getr (v := .ref (base + 114)) (aX7_letters 15 rfl) uf_RX7_19 un_RX7_19 (congrArg (fun r => va_rf (h_rf base r)) (q111_2 (hok).2.1)) ?_
        refine pw_iloadn (aX7_letters 16 rfl) rfl ?_
        refine pw_ialdr (c := 114) (ix := (a1).toInt.toNat) (aX7_letters 17 rfl) rfl (fun _ => ?_)
        refine pw_aloadn (aX7_letters 18 rfl) rfl ?_
        refine pw_getr (v := .ref (base + 115)) (aX7_letters 19 rfl) uf_RX7_22 un_RX7_22 (congrArg (fun r => va_rf (h_rf base r)) (q111_3 (hok).2.1)) ?_
        refine pw_iloadn (aX7_letters 20 rfl) rfl ?_
        refine pw_ialdr (c := 115) (ix := (a1).toInt.toNat) (aX7_letters 21 rfl) rfl (fun _ => ?_)
        refine pw_icle (tgt := 45) (aX7_letters 22 rfl) (by decide) (fun b6 => ?_) (fun b6 => ?_)
        · skip
          refine pw_iconst (v := (0 : Int32)) (aX7_letters 23 rfl) rfl ?_
          refine pw_newa (k := 0) (zz := 0) hok (aX7_letters 24 rfl) rfl rfl (fun v7 n7 sl7 SH7 FI7 FL7 FR7 hok7 _ => ?_)
          exact pw_aret (o := some n) (aX7_letters 25 rfl) hok7
        · skip
          refine pw_aloadn (aX7_letters 26 rfl) rfl ?_
          refine pw_getr (v := va_rf (h_rf base (FR 111 5))) (aX7_letters 27 rfl) uf_RX7_25 un_RX7_25 rfl ?_
          refine pw_aloadn (aX7_letters 28 rfl) rfl ?_
          refine pw_getr (v := .ref (base + 114)) (aX7_letters 29 rfl) uf_RX7_19 un_RX7_19 (congrArg (fun r => va_rf (h_rf base r)) (q111_2 (hok).2.1)) ?_
          refine pw_iloadn (aX7_letters 30 rfl) rfl ?_
          refine pw_ialdr (c := 114) (ix := (a1).toInt.toNat) (aX7_letters 31 rfl) rfl (fun _ => ?_)
          refine pw_aloadn (aX7_letters 32 rfl) rfl ?_
          refine pw_getr (v := .ref (base + 115)) (aX7_letters 33 rfl) uf_RX7_22 un_RX7_22 (congrArg (fun r => va_rf (h_rf base r)) (q111_3 (hok).2.1)) ?_
          refine pw_iloadn (aX7_letters 34 rfl) rfl ?_
          refine pw_ialdr (c := 115) (ix := (a1).toInt.toNat) (aX7_letters 35 rfl) rfl (fun _ => ?_)
          refine pw_callS (As := [va_rf (h_rf base (FR 111 5)), .int (FI 114 (a1).toInt.toNat), .int (FI 115 (a1).toInt.toNat)]) (L2 := [(0, va_rf (h_rf base (FR 111 5))), (1, .int (FI 114 (a1).toInt.toNat)), (2, .int (FI 115 (a1).toInt.toNat))]) (rest := []) (aX7_letters 36 rfl) um_RX7_128 ujJ7_copyOfRange_feecc wc_RX7_128.2.2.2.2 (by decide) rfl (by first | rfl | simp [lv_args, va_cat, va_ci, va_cl, va_cr, va_cn]) (fun d => rJ7_copyOfRange_feecc hkb (FR 111 5) (FI 114 (a1).toInt.toNat) (FI 115 (a1).toInt.toNat) n sl SH FI FL FR hok) (fun v8 n8 sl8 SH8 FI8 FL8 FR8 hok8 _ => ?_)
          show pw _ _ _ _ _ _ _ 64 _ [va_rf (h_rf base (v8))] _ _
          exact pw_aret (o := v8) (aX7_letters 37 rfl) hok8
    · skip
      refine pw_iconst (v := (0 : Int32)) (aX7_letters 23 rfl) rfl ?_
      refine pw_newa (k := 0) (zz := 0) hok (aX7_letters 24 rfl) rfl rfl (fun v9 n9 sl9 SH9 FI9 FL9 FR9 hok9 _ => ?_)
      exact pw_aret (o := some n) (aX7_letters 25 rfl) hok9
set_option maxHeartbeats 4000000 in
set_option maxRecDepth 100000 in
theorem bX4_isKnown_2 {sk : xK} {base N d : Nat} {K2 : Int32 → Nat → Nat → (Nat → Nat × Nat) → (Nat → Nat → Int32) → (Nat → Nat → Int64) → (Nat → Nat → Option Nat) → Int32 → hS → Prop} (hkb : x_kb sk base) (a1 : Option Nat) (l2i : Int32)  (n sl : Nat) (SH : Nat → Nat × Nat) (FI : Nat → Nat → Int32) (FL : Nat → Nat → Int64) (FR : Nat → Nat → Option Nat) (hok : pk n SH FR)  (hK2 : ∀ (l2i : Int32) (n sl : Nat) (SH : Nat → Nat × Nat) (FI : Nat → Nat → Int32) (FL : Nat → Nat → Int64) (FR : Nat → Nat → Option Nat), pk n SH FR → pw pj_I sk base N d none 43 2 [(0, .ref (base + 110)), (1, va_rf (h_rf base (a1))), (2, .int (l2i))] [] (n, sl, SH, FI, FL, FR) (K2 l2i n sl SH FI FL FR)) : pw pj_I sk base (N + 1) d none 43 2 [(0, .ref (base + 110)), (1, va_rf (h_rf base (a1))), (2, .int (l2i))] [] (n, sl, SH, FI, FL, FR) (BX4_isKnown_2 K2 a1 l2i n sl SH FI FL FR) := by
  unfold BX4_isKnown_2
  refine pd_iloadn (aX4_isKnown 2 rfl) rfl ?_
  refine pw_aloadn (aX4_isKnown 3 rfl) rfl ?_
  refine pw_getr (v := .int (FI 110 3)) (aX4_isKnown 4 rfl) uf_RX4_32 un_RX4_32 rfl ?_
  refine pw_icge (tgt := 43) (aX4_isKnown 5 rfl) (by decide) (fun b0 => ?_) (fun b0 => ?_)
  · skip
    refine pw_iloadn (aX4_isKnown 6 rfl) rfl ?_
    refine pw_aloadn (aX4_isKnown 7 rfl) rfl ?_
    refine pw_getr (v := va_rf (h_rf base (FR 110 2))) (aX4_isKnown 8 rfl) uf_RX4_24 un_RX4_24 rfl ?_
    refine pw_alen hkb (o := FR 110 2) (aX4_isKnown 9 rfl) (fun c2 hc2 _ => ?_)
    refine pw_icge (tgt := 43) (aX4_isKnown 10 rfl) (by decide) (fun b2 => ?_) (fun b2 => ?_)
    · skip
      refine pw_aloadn (aX4_isKnown 11 rfl) rfl ?_
      refine pw_getr (v := va_rf (h_rf base (FR 110 2))) (aX4_isKnown 12 rfl) uf_RX4_24 un_RX4_24 rfl ?_
      refine pw_iloadn (aX4_isKnown 13 rfl) rfl ?_
      refine pw_aald (ix := (l2i).toInt.toNat) (o := FR 110 2) (aX4_isKnown 14 rfl) rfl (fun c4 hc4 _ gc4 => ?_)
      refine pw_get (o := FR c4 (l2i).toInt.toNat) (v := fun c5 => va_rf (h_rf base (FR c5 0))) (aX4_isKnown 15 rfl) uf_RX4_97 un_RX4_97 (fun _ => rfl) (fun c5 hc5 _ tc5 => ?_)
      refine pw_aloadn (aX4_isKnown 16 rfl) rfl ?_
      refine pw_callS (As := [va_rf (h_rf base (FR c5 0)), va_rf (h_rf base (a1))]) (L2 := [(0, va_rf (h_rf base (FR c5 0))), (1, va_rf (h_rf base (a1)))]) (rest := []) (aX4_isKnown 17 rfl) um_RX4_100 ujX4_areSame wc_RX4_100.2.2.2.2 (by decide) rfl (by first | rfl | simp [lv_args, va_cat, va_ci, va_cl, va_cr, va_cn]) (fun d => rX4_areSame hkb (FR c5 0) (a1) n sl SH FI FL FR hok) (fun v5 n5 sl5 SH5 FI5 FL5 FR5 hok5 _ => ?_)
      show pw _ _ _ _ _ _ _ 32 _ [.int (v5)] _ _
      refine pw_ifeq (tgt := 37) (aX4_isKnown 18 rfl) (by decide) (fun b6 => ?_) (fun b6 => ?_)
      · skip
        refine pw_iinc (v := (l2i) + (1 : Int32)) (L2 := [(2, .int ((l2i) + (1 : Int32))), (0, .ref (base + 110)), (1, va_rf (h_rf base (a1)))]) (aX4_isKnown 21 rfl) rfl rfl (by first | rfl | (simp [x_s1, x_s2, va_cat, va_ci, va_cl, va_cr, va_cn]; done) | (simp [x_s1, x_s2, va_cat, va_ci, va_cl, va_cr, va_cn]; decide)) ?_
        refine pw_goto (tgt := 2) (aX4_isKnown 22 rfl) (by decide) ?_
        exact pw_Li (L2 := [(0, .ref (base + 110)), (1, va_rf (h_rf base (a1))), (2, .int ((l2i) + (1 : Int32)))]) [2, 0, 1] (hK2 ((l2i) + (1 : Int32)) n5 sl5 SH5 FI5 FL5 FR5 hok5) ⟨rfl, rfl, rfl, trivial⟩
      · skip
        refine pw_iconst (v := (1 : Int32)) (aX4_isKnown 19 rfl) rfl ?_
        exact pw_iret (aX4_isKnown 20 rfl) hok5
    · skip
      refine pw_iconst (v := (0 : Int32)) (aX4_isKnown 23 rfl) rfl ?_
      exact pw_iret (aX4_isKnown 24 rfl) hok
  · skip
    refine pw_iconst (v := (0 : Int32)) (aX4_isKnown 23 rfl) rfl ?_
    exact pw_iret (aX4_isKnown 24 rfl) hok
theorem gX4_isKnown_2 {sk : xK} {base d : Nat}  (hkb : x_kb sk base) (a1 : Option Nat) (N : Nat) :  ∀ (l2i : Int32)  (n sl : Nat) (SH : Nat → Nat × Nat) (FI : Nat → Nat → Int32) (FL : Nat → Nat → Int64) (FR : Nat → Nat → Option Nat), pk n SH FR → pw pj_I sk base N d none 43 2 [(0, .ref (base + 110)), (1, va_rf (h_rf base (a1))), (2, .int (l2i))] [] (n, sl, SH, FI, FL, FR) (GX4_isKnown_2  a1 (N + 1) l2i n sl SH FI FL FR) := by
  induction N with
  | zero => intros; exact pw_0
  | succ N ih => intro   l2i  n sl SH FI FL FR hok; exact bX4_isKnown_2 hkb a1 l2i  n sl SH FI FL FR hok  (ih  )
theorem rX4_isKnown_2 {sk : xK} {base N d : Nat}  (hkb : x_kb sk base) (a1 : Option Nat) (l2i : Int32)  (n sl : Nat) (SH : Nat → Nat × Nat) (FI : Nat → Nat → Int32) (FL : Nat → Nat → Int64) (FR : Nat → Nat → Option Nat) (hok : pk n SH FR)   : pw pj_I sk base N d none 43 2 [(0, .ref (base + 110)), (1, va_rf (h_rf base (a1))), (2, .int (l2i))] [] (n, sl, SH, FI, FL, FR) (RX4_isKnown_2  a1 l2i n sl SH FI FL FR) := pw_cons (gX4_isKnown_2 hkb a1 N   l2i  n sl SH FI FL FR hok) (fun _ _ h => ⟨_, h⟩)
set_option maxHeartbeats 4000000 in
set_option maxRecDepth 100000 in
theorem rX4_isKnown {sk : xK} {base N d : Nat} (hkb : x_kb sk base) (a1 : Option Nat) (n sl : Nat) (SH : Nat → Nat × Nat) (FI : Nat → Nat → Int32) (FL : Nat → Nat → Int64) (FR : Nat → Nat → Option Nat) (hok : pk n SH FR)  : pw pj_I sk base N d none 43 0 [(0, .ref (base + 110)), (1, va_rf (h_rf base (a1)))] [] (n, sl, SH, FI, FL, FR) (RX4_isKnown a1 n sl SH FI FL FR) := by
  unfold RX4_isKnown
  refine pw_iconst (v := (0 : Int32)) (aX4_isKnown 0 rfl) rfl ?_
  refine pw_istoren (L2 := [(2, .int ((0 : Int32))), (0, .ref (base + 110)), (1, va_rf (h_rf base (a1)))]) (aX4_isKnown 1 rfl) (by first | rfl | (simp [x_s1, x_s2, va_cat, va_ci, va_cl, va_cr, va_cn]; done) | (simp [x_s1, x_s2, va_cat, va_ci, va_cl, va_cr, va_cn]; decide)) ?_
  exact pw_Li (L2 := [(0, .ref (base + 110)), (1, va_rf (h_rf base (a1))), (2, .int ((0 : Int32)))]) [2, 0, 1] (rX4_isKnown_2 hkb a1 ((0 : Int32)) n sl SH FI FL FR hok  ) ⟨rfl, rfl, rfl, trivial⟩
set_option maxHeartbeats 4000000 in
set_option maxRecDepth 100000 in
theorem rX4_readBlock_82 {sk : xK} {base N d : Nat}  (hkb : x_kb sk base)  (l1i : Int32) (l2i : Int32) (n sl : Nat) (SH : Nat → Nat × Nat) (FI : Nat → Nat → Int32) (FL : Nat → Nat → Int64) (FR : Nat → Nat → Option Nat) (hok : pk n SH FR)   : pw (pj_A base) sk base N d none 52 82 [(0, .ref (base + 110)), (1, .int (l1i)), (2, .int (l2i))] [] (n, sl, SH, FI, FL, FR) (RX4_readBlock_82   l1i n sl SH FI FL FR) := by
  unfold RX4_readBlock_82
  refine pw_iloadn (aX4_readBlock 43 rfl) rfl ?_
  refine pw_ifne (tgt := 91) (aX4_readBlock 44 rfl) (by decide) (fun b0 => ?_) (fun b0 => ?_)
  · skip
    refine pw_aloadn (aX4_readBlock 45 rfl) rfl ?_
    refine pw_iconst (v := (1 : Int32)) (aX4_readBlock 46 rfl) rfl ?_
    refine pw_callV (Bs := [.int ((1 : Int32))]) (rest := []) (aX4_readBlock 47 rfl) um_RX4_69 ujX4_refuse wc_RX4_69.2.2.2.2 (by decide) (by decide) rfl rfl (fun d => rX4_refuse hkb ((1 : Int32)) n sl SH FI FL FR hok) (fun v1 n1 sl1 SH1 FI1 FL1 FR1 hok1 _ => ?_)
    show pw _ _ _ _ _ _ _ 91 _ [] _ _
    refine pw_aloadn (aX4_readBlock 48 rfl) rfl ?_
    refine pw_getr (v := .ref (base + 117)) (aX4_readBlock 49 rfl) uf_RX4_18 un_RX4_18 (congrArg (fun r => va_rf (h_rf base r)) (q110_1 (hok1).2.1)) ?_
    refine pw_iloadn (aX4_readBlock 50 rfl) rfl ?_
    refine pw_callS (As := [.ref (base + 117), .int (l1i)]) (rest := []) (aX4_readBlock 51 rfl) um_RX4_171 ujJ7_copyOf_59c91 wc_RX4_171.2.2.2.2 (by decide) rfl rfl (fun d => rJ7_copyOf_59c91 hkb (some 117) (l1i) n1 sl1 SH1 FI1 FL1 FR1 hok1) (fun v2 n2 sl2 SH2 FI2 FL2 FR2 hok2 _ => ?_)
    show pw _ _ _ _ _ _ _ 99 _ [va_rf (h_rf base (v2))] _ _
    exact pw_aret (o := v2) (aX4_readBlock 52 rfl) hok2
  · skip
    refine pw_aloadn (aX4_readBlock 48 rfl) rfl ?_
    refine pw_getr (v := .ref (base + 117)) (aX4_readBlock 49 rfl) uf_RX4_18 un_RX4_18 (congrArg (fun r => va_rf (h_rf base r)) (q110_1 (hok).2.1)) ?_
    refine pw_iloadn (aX4_readBlock 50 rfl) rfl ?_
    refine pw_callS (As := [.ref (base + 117), .int (l1i)]) (rest := []) (aX4_readBlock 51 rfl) um_RX4_171 ujJ7_copyOf_59c91 wc_RX4_171.2.2.2.2 (by decide) rfl rfl (fun d => rJ7_copyOf_59c91 hkb (some 117) (l1i) n sl SH FI FL FR hok) (fun v3 n3 sl3 SH3 FI3 FL3 FR3 hok3 _ => ?_)
    show pw _ _ _ _ _ _ _ 99 _ [va_rf (h_rf base (v3))] _ _
    exact pw_aret (o := v3) (aX4_readBlock 52 rfl) hok3
set_option maxHeartbeats 4000000 in
set_option maxRecDepth 100000 in
theorem rX4_readBlock_76 {sk : xK} {base N d : Nat} {K4 : Int32 → Int32 → Nat → Nat → (Nat → Nat × Nat) → (Nat → Nat → Int32) → (Nat → Nat → Int64) → (Nat → Nat → Option Nat) → Option Nat → hS → Prop} (hkb : x_kb sk base)  (l1i : Int32) (l2i : Int32)  (n sl : Nat) (SH : Nat → Nat × Nat) (FI : Nat → Nat → Int32) (FL : Nat → Nat → Int64) (FR : Nat → Nat → Option Nat) (hok : pk n SH FR)  (hK4 : ∀ (l1i : Int32) (l2i : Int32) (n sl : Nat) (SH : Nat → Nat × Nat) (FI : Nat → Nat → Int32) (FL : Nat → Nat → Int64) (FR : Nat → Nat → Option Nat), pk n SH FR → pw (pj_A base) sk base N d none 52 4 [(0, .ref (base + 110)), (1, .int (l1i)), (2, .int (l2i))] [] (n, sl, SH, FI, FL, FR) (K4 l1i l2i n sl SH FI FL FR)) : pw (pj_A base) sk base N d none 52 76 [(0, .ref (base + 110)), (1, .int (l1i)), (2, .int (l2i))] [] (n, sl, SH, FI, FL, FR) (RX4_readBlock_76 K4  l1i l2i n sl SH FI FL FR) := by
  unfold RX4_readBlock_76
  refine pw_iinc (v := (l2i) + (1 : Int32)) (L2 := [(2, .int ((l2i) + (1 : Int32))), (0, .ref (base + 110)), (1, .int (l1i))]) (aX4_readBlock 41 rfl) rfl rfl rfl ?_
  refine pw_goto (tgt := 4) (aX4_readBlock 42 rfl) (by decide) ?_
  exact pw_Li (L2 := [(0, .ref (base + 110)), (1, .int (l1i)), (2, .int ((l2i) + (1 : Int32)))]) [2, 0, 1] (hK4 (l1i) ((l2i) + (1 : Int32)) n sl SH FI FL FR hok) ⟨rfl, rfl, rfl, trivial⟩
set_option maxHeartbeats 4000000 in
set_option maxRecDepth 100000 in
theorem bX4_readBlock_4 {sk : xK} {base N d : Nat} {K4 : Int32 → Int32 → Nat → Nat → (Nat → Nat × Nat) → (Nat → Nat → Int32) → (Nat → Nat → Int64) → (Nat → Nat → Option Nat) → Option Nat → hS → Prop} (hkb : x_kb sk base)  (l1i : Int32) (l2i : Int32)  (n sl : Nat) (SH : Nat → Nat × Nat) (FI : Nat → Nat → Int32) (FL : Nat → Nat → Int64) (FR : Nat → Nat → Option Nat) (hok : pk n SH FR)  (hK4 : ∀ (l1i : Int32) (l2i : Int32) (n sl : Nat) (SH : Nat → Nat × Nat) (FI : Nat → Nat → Int32) (FL : Nat → Nat → Int64) (FR : Nat → Nat → Option Nat), pk n SH FR → pw (pj_A base) sk base N d none 52 4 [(0, .ref (base + 110)), (1, .int (l1i)), (2, .int (l2i))] [] (n, sl, SH, FI, FL, FR) (K4 l1i l2i n sl SH FI FL FR)) : pw (pj_A base) sk base (N + 1) d none 52 4 [(0, .ref (base + 110)), (1, .int (l1i)), (2, .int (l2i))] [] (n, sl, SH, FI, FL, FR) (BX4_readBlock_4 K4  l1i l2i n sl SH FI FL FR) := by
  unfold BX4_readBlock_4
  refine pd_iloadn (aX4_readBlock 4 rfl) rfl ?_
  refine pw_aloadn (aX4_readBlock 5 rfl) rfl ?_
  refine pw_getr (v := .ref (base + 117)) (aX4_readBlock 6 rfl) uf_RX4_18 un_RX4_18 (congrArg (fun r => va_rf (h_rf base r)) (q110_1 (hok).2.1)) ?_
  refine pw_alenr hkb (c := 117) (aX4_readBlock 7 rfl) ?_
  refine pw_icgt (tgt := 82) (aX4_readBlock 8 rfl) (by decide) (fun b0 => ?_) (fun b0 => ?_)
  · skip
    exact pw_Li (L2 := [(0, .ref (base + 110)), (1, .int (l1i)), (2, .int (l2i))]) [0, 1, 2] (rX4_readBlock_82 hkb  (l1i) (l2i) n sl SH FI FL FR hok  ) ⟨rfl, rfl, rfl, trivial⟩
  · skip
    refine pw_aloadn (aX4_readBlock 9 rfl) rfl ?_
    refine pw_getr (v := .int (FI 110 8)) (aX4_readBlock 10 rfl) uf_RX4_51 un_RX4_51 rfl ?_
    refine pw_iconst (v := (5 : Int32)) (aX4_readBlock 11 rfl) rfl ?_
    refine pw_icne (tgt := 82) (aX4_readBlock 12 rfl) (by decide) (fun b1 => ?_) (fun b1 => ?_)
    · skip
      refine pw_aloadn (aX4_readBlock 13 rfl) rfl ?_
      refine pw_getr (v := .long (FL 110 9)) (aX4_readBlock 14 rfl) uf_RX4_62 un_RX4_62 rfl ?_
      refine pw_ldc2 (v := (255 : Int64)) (aX4_readBlock 15 rfl) uk_RX4_169 ?_
      refine pw_lcle (tgt := 40) (aX4_readBlock 16 rfl) (aX4_readBlock 17 rfl) (by decide) (fun b2 => ?_) (fun b2 => ?_)
      · skip
        refine pw_aloadn (aX4_readBlock 18 rfl) rfl ?_
        refine pw_iconst (v := (3 : Int32)) (aX4_readBlock 19 rfl) rfl ?_
        refine pw_callV (Bs := [.int ((3 : Int32))]) (rest := []) (aX4_readBlock 20 rfl) um_RX4_69 ujX4_refuse wc_RX4_69.2.2.2.2 (by decide) (by decide) rfl rfl (fun d => rX4_refuse hkb ((3 : Int32)) n sl SH FI FL FR hok) (fun v3 n3 sl3 SH3 FI3 FL3 FR3 hok3 _ => ?_)
        show pw _ _ _ _ _ _ _ 37 _ [] _ _
        refine pw_goto (tgt := 76) (aX4_readBlock 21 rfl) (by decide) ?_
        exact pw_Li (L2 := [(0, .ref (base + 110)), (1, .int (l1i)), (2, .int (l2i))]) [0, 1, 2] (rX4_readBlock_76 hkb  (l1i) (l2i) n3 sl3 SH3 FI3 FL3 FR3 hok3  hK4) ⟨rfl, rfl, rfl, trivial⟩
      · skip
        refine pw_iloadn (aX4_readBlock 22 rfl) rfl ?_
        refine pw_aloadn (aX4_readBlock 23 rfl) rfl ?_
        refine pw_getr (v := .ref (base + 117)) (aX4_readBlock 24 rfl) uf_RX4_18 un_RX4_18 (congrArg (fun r => va_rf (h_rf base r)) (q110_1 (hok).2.1)) ?_
        refine pw_alenr hkb (c := 117) (aX4_readBlock 25 rfl) ?_
        refine pw_iclt (tgt := 58) (aX4_readBlock 26 rfl) (by decide) (fun b4 => ?_) (fun b4 => ?_)
        · skip
          refine pw_aloadn (aX4_readBlock 31 rfl) rfl ?_
          refine pw_getr (v := .ref (base + 117)) (aX4_readBlock 32 rfl) uf_RX4_18 un_RX4_18 (congrArg (fun r => va_rf (h_rf base r)) (q110_1 (hok).2.1)) ?_
          refine pw_iloadn (aX4_readBlock 33 rfl) rfl ?_
          refine pw_aloadn (aX4_readBlock 34 rfl) rfl ?_
          refine pw_getr (v := .long (FL 110 9)) (aX4_readBlock 35 rfl) uf_RX4_62 un_RX4_62 rfl ?_
          refine pw_l2i (aX4_readBlock 36 rfl) ?_
          refine pw_iastr (c := 117) (ix := (l1i).toInt.toNat) (aX4_readBlock 37 rfl) rfl (fun _ => ?_)
          refine pw_iinc (v := (l1i) + (1 : Int32)) (L2 := [(1, .int ((l1i) + (1 : Int32))), (0, .ref (base + 110)), (2, .int (l2i))]) (aX4_readBlock 38 rfl) rfl rfl rfl ?_
          refine pw_aloadn (aX4_readBlock 39 rfl) rfl ?_
          refine pw_callV (Bs := []) (rest := []) (aX4_readBlock 40 rfl) um_RX4_48 ujX4_take wc_RX4_48.2.2.2.2 (by decide) (by decide) rfl rfl (fun d => rX4_take hkb  n sl SH (h_up FI 117 (l1i).toInt.toNat ((FL 110 9).toInt32)) FL FR hok) (fun v5 n5 sl5 SH5 FI5 FL5 FR5 hok5 _ => ?_)
          show pw _ _ _ _ _ _ _ 76 _ [] _ _
          exact pw_Li (L2 := [(0, .ref (base + 110)), (1, .int ((l1i) + (1 : Int32))), (2, .int (l2i))]) [1, 0, 2] (rX4_readBlock_76 hkb  ((l1i) + (1 : Int32)) (l2i) n5 sl5 SH5 FI5 FL5 FR5 hok5  hK4) ⟨rfl, rfl, rfl, trivial⟩
        · skip
          refine pw_aloadn (aX4_readBlock 27 rfl) rfl ?_
          refine pw_bipush (v := (6 : Int32)) (aX4_readBlock 28 rfl) rfl ?_
          refine pw_callV (Bs := [.int ((6 : Int32))]) (rest := []) (aX4_readBlock 29 rfl) um_RX4_69 ujX4_refuse wc_RX4_69.2.2.2.2 (by decide) (by decide) rfl rfl (fun d => rX4_refuse hkb ((6 : Int32)) n sl SH FI FL FR hok) (fun v6 n6 sl6 SH6 FI6 FL6 FR6 hok6 _ => ?_)
          show pw _ _ _ _ _ _ _ 55 _ [] _ _
          refine pw_goto (tgt := 76) (aX4_readBlock 30 rfl) (by decide) ?_
          exact pw_Li (L2 := [(0, .ref (base + 110)), (1, .int (l1i)), (2, .int (l2i))]) [0, 1, 2] (rX4_readBlock_76 hkb  (l1i) (l2i) n6 sl6 SH6 FI6 FL6 FR6 hok6  hK4) ⟨rfl, rfl, rfl, trivial⟩
    · skip
      exact pw_Li (L2 := [(0, .ref (base + 110)), (1, .int (l1i)), (2, .int (l2i))]) [0, 1, 2] (rX4_readBlock_82 hkb  (l1i) (l2i) n sl SH FI FL FR hok  ) ⟨rfl, rfl, rfl, trivial⟩
theorem gX4_readBlock_4 {sk : xK} {base d : Nat}  (hkb : x_kb sk base)  (N : Nat) :  ∀ (l1i : Int32) (l2i : Int32)  (n sl : Nat) (SH : Nat → Nat × Nat) (FI : Nat → Nat → Int32) (FL : Nat → Nat → Int64) (FR : Nat → Nat → Option Nat), pk n SH FR → pw (pj_A base) sk base N d none 52 4 [(0, .ref (base + 110)), (1, .int (l1i)), (2, .int (l2i))] [] (n, sl, SH, FI, FL, FR) (GX4_readBlock_4   (N + 1) l1i l2i n sl SH FI FL FR) := by
  induction N with
  | zero => intros; exact pw_0
  | succ N ih => intro   l1i l2i  n sl SH FI FL FR hok; exact bX4_readBlock_4 hkb  l1i l2i  n sl SH FI FL FR hok  (ih  )
theorem rX4_readBlock_4 {sk : xK} {base N d : Nat}  (hkb : x_kb sk base)  (l1i : Int32) (l2i : Int32)  (n sl : Nat) (SH : Nat → Nat × Nat) (FI : Nat → Nat → Int32) (FL : Nat → Nat → Int64) (FR : Nat → Nat → Option Nat) (hok : pk n SH FR)   : pw (pj_A base) sk base N d none 52 4 [(0, .ref (base + 110)), (1, .int (l1i)), (2, .int (l2i))] [] (n, sl, SH, FI, FL, FR) (RX4_readBlock_4   l1i l2i n sl SH FI FL FR) := pw_cons (gX4_readBlock_4 hkb  N   l1i l2i  n sl SH FI FL FR hok) (fun _ _ h => ⟨_, h⟩)
set_option maxHeartbeats 4000000 in
set_option maxRecDepth 100000 in
theorem rX4_readBlock {sk : xK} {base N d : Nat} (hkb : x_kb sk base)  (n sl : Nat) (SH : Nat → Nat × Nat) (FI : Nat → Nat → Int32) (FL : Nat → Nat → Int64) (FR : Nat → Nat → Option Nat) (hok : pk n SH FR)  : pw (pj_A base) sk base N d none 52 0 [(0, .ref (base + 110))] [] (n, sl, SH, FI, FL, FR) (RX4_readBlock  n sl SH FI FL FR) := by
  unfold RX4_readBlock
  refine pw_iconst (v := (0 : Int32)) (aX4_readBlock 0 rfl) rfl ?_
  refine pw_istoren (L2 := [(1, .int ((0 : Int32))), (0, .ref (base + 110))]) (aX4_readBlock 1 rfl) rfl ?_
  refine pw_iconst (v := (0 : Int32)) (aX4_readBlock 2 rfl) rfl ?_
  refine pw_istoren (L2 := [(2, .int ((0 : Int32))), (1, .int ((0 : Int32))), (0, .ref (base + 110))]) (aX4_readBlock 3 rfl) rfl ?_
  exact pw_Li (L2 := [(0, .ref (base + 110)), (1, .int ((0 : Int32))), (2, .int ((0 : Int32)))]) [2, 1, 0] (rX4_readBlock_4 hkb  ((0 : Int32)) ((0 : Int32)) n sl SH FI FL FR hok  ) ⟨rfl, rfl, rfl, trivial⟩
set_option maxHeartbeats 4000000 in
set_option maxRecDepth 100000 in
theorem rX4_readPlace_45 {sk : xK} {base N d : Nat}  (hkb : x_kb sk base)  (l1o : Option Nat) (l2i : Int32)  (n sl : Nat) (SH : Nat → Nat × Nat) (FI : Nat → Nat → Int32) (FL : Nat → Nat → Int64) (FR : Nat → Nat → Option Nat) (hok : pk n SH FR)   : pw (pj_A base) sk base N d none 50 45 [(0, .ref (base + 110)), (1, va_rf (h_rf base (l1o))), (2, .int (l2i))] [] (n, sl, SH, FI, FL, FR) (RX4_readPlace_45   l1o l2i n sl SH FI FL FR) := by
  unfold RX4_readPlace_45
  refine pw_iloadn (aX4_readPlace 22 rfl) rfl ?_
  refine pw_bipush (v := (7 : Int32)) (aX4_readPlace 23 rfl) rfl ?_
  refine pw_icne (tgt := 72) (aX4_readPlace 24 rfl) (by decide) (fun b0 => ?_) (fun b0 => ?_)
  · skip
    refine pw_aloadn (aX4_readPlace 25 rfl) rfl ?_
    refine pw_iconst (v := (2 : Int32)) (aX4_readPlace 26 rfl) rfl ?_
    refine pw_puti (o := l1o) (aX4_readPlace 27 rfl) uf_RX4_144 (fun _ _ _ => rfl) (fun c2 hc2 _ tc2 => ?_)
    refine pw_aloadn (aX4_readPlace 28 rfl) rfl ?_
    refine pw_aloadn (aX4_readPlace 29 rfl) rfl ?_
    refine pw_callV (Bs := []) (rest := [va_rf (h_rf base (l1o))]) (aX4_readPlace 30 rfl) um_RX4_145 ujX4_refuseHighRegister wc_RX4_145.2.2.2.2 (by decide) (by decide) rfl rfl (fun d => rX4_refuseHighRegister hkb  n sl SH (h_up FI c2 0 ((2 : Int32))) FL FR hok) (fun v2 n2 sl2 SH2 FI2 FL2 FR2 hok2 _ => ?_)
    show pw _ _ _ _ _ _ _ 61 _ [.long (v2), va_rf (h_rf base (l1o))] _ _
    refine pw_putl (o := l1o) (aX4_readPlace 31 rfl) uf_RX4_149 (fun _ _ _ => rfl) (fun c4 hc4 _ tc4 => ?_)
    refine pw_aloadn (aX4_readPlace 32 rfl) rfl ?_
    refine pw_iconst (v := (5 : Int32)) (aX4_readPlace 33 rfl) rfl ?_
    refine pw_callV (Bs := [.int ((5 : Int32))]) (rest := []) (aX4_readPlace 34 rfl) um_RX4_83 ujX4_expect wc_RX4_83.2.2.2.2 (by decide) (by decide) rfl rfl (fun d => rX4_expect hkb ((5 : Int32)) n2 sl2 SH2 FI2 (h_up FL2 c4 1 (v2)) FR2 hok2) (fun v4 n4 sl4 SH4 FI4 FL4 FR4 hok4 _ => ?_)
    show pw _ _ _ _ _ _ _ 69 _ [] _ _
    refine pw_goto (tgt := 151) (aX4_readPlace 35 rfl) (by decide) ?_
    refine pw_aloadn (aX4_readPlace 77 rfl) rfl ?_
    exact pw_aret (o := l1o) (aX4_readPlace 78 rfl) hok4
  · skip
    refine pw_iloadn (aX4_readPlace 36 rfl) rfl ?_
    refine pw_bipush (v := (91 : Int32)) (aX4_readPlace 37 rfl) rfl ?_
    refine pw_icne (tgt := 110) (aX4_readPlace 38 rfl) (by decide) (fun b5 => ?_) (fun b5 => ?_)
    · skip
      refine pw_aloadn (aX4_readPlace 39 rfl) rfl ?_
      refine pw_iconst (v := (1 : Int32)) (aX4_readPlace 40 rfl) rfl ?_
      refine pw_puti (o := l1o) (aX4_readPlace 41 rfl) uf_RX4_144 (fun _ _ _ => rfl) (fun c7 hc7 _ tc7 => ?_)
      refine pw_aloadn (aX4_readPlace 42 rfl) rfl ?_
      refine pw_aloadn (aX4_readPlace 43 rfl) rfl ?_
      refine pw_callV (Bs := []) (rest := [va_rf (h_rf base (l1o))]) (aX4_readPlace 44 rfl) um_RX4_150 ujX4_readChoice wc_RX4_150.2.2.2.2 (by decide) (by decide) rfl rfl (fun d => rX4_readChoice_ hkb  n sl SH (h_up FI c7 0 ((1 : Int32))) FL FR hok) (fun v7 n7 sl7 SH7 FI7 FL7 FR7 hok7 _ => ?_)
      show pw _ _ _ _ _ _ _ 88 _ [va_rf (h_rf base (v7)), va_rf (h_rf base (l1o))] _ _
      refine pw_putr (o := l1o) (p := v7) (aX4_readPlace 45 rfl) uf_RX4_154 (fun _ _ _ => rfl) (fun c9 hc9 _ tc9 => ?_)
      refine pw_aloadn (aX4_readPlace 46 rfl) rfl ?_
      refine pw_bipush (v := (93 : Int32)) (aX4_readPlace 47 rfl) rfl ?_
      refine pw_callV (Bs := [.int ((93 : Int32))]) (rest := []) (aX4_readPlace 48 rfl) um_RX4_83 ujX4_expect wc_RX4_83.2.2.2.2 (by decide) (by decide) rfl rfl (fun d => rX4_expect hkb ((93 : Int32)) n7 sl7 SH7 FI7 FL7 (h_up FR7 c9 2 (v7)) (pk_t hok7 tc9 (by decide))) (fun v9 n9 sl9 SH9 FI9 FL9 FR9 hok9 _ => ?_)
      show pw _ _ _ _ _ _ _ 97 _ [] _ _
      refine pw_aloadn (aX4_readPlace 49 rfl) rfl ?_
      refine pw_dup (aX4_readPlace 50 rfl) ?_
      refine pw_getr (v := .int (FI9 110 4)) (aX4_readPlace 51 rfl) uf_RX4_36 un_RX4_36 rfl ?_
      refine pw_iconst (v := (1 : Int32)) (aX4_readPlace 52 rfl) rfl ?_
      refine pw_isub (aX4_readPlace 53 rfl) ?_
      refine pw_putri (aX4_readPlace 54 rfl) uf_RX4_36 (fun _ _ _ => rfl) (fun t11 => ?_)
      refine pw_goto (tgt := 151) (aX4_readPlace 55 rfl) (by decide) ?_
      refine pw_aloadn (aX4_readPlace 77 rfl) rfl ?_
      exact pw_aret (o := l1o) (aX4_readPlace 78 rfl) hok9
    · skip
      refine pw_iloadn (aX4_readPlace 56 rfl) rfl ?_
      refine pw_bipush (v := (8 : Int32)) (aX4_readPlace 57 rfl) rfl ?_
      refine pw_icne (tgt := 132) (aX4_readPlace 58 rfl) (by decide) (fun b11 => ?_) (fun b11 => ?_)
      · skip
        refine pw_aloadn (aX4_readPlace 59 rfl) rfl ?_
        refine pw_iconst (v := (3 : Int32)) (aX4_readPlace 60 rfl) rfl ?_
        refine pw_puti (o := l1o) (aX4_readPlace 61 rfl) uf_RX4_144 (fun _ _ _ => rfl) (fun c13 hc13 _ tc13 => ?_)
        refine pw_aloadn (aX4_readPlace 62 rfl) rfl ?_
        refine pw_aloadn (aX4_readPlace 63 rfl) rfl ?_
        refine pw_callV (Bs := []) (rest := [va_rf (h_rf base (l1o))]) (aX4_readPlace 64 rfl) um_RX4_150 ujX4_readChoice wc_RX4_150.2.2.2.2 (by decide) (by decide) rfl rfl (fun d => rX4_readChoice_ hkb  n sl SH (h_up FI c13 0 ((3 : Int32))) FL FR hok) (fun v13 n13 sl13 SH13 FI13 FL13 FR13 hok13 _ => ?_)
        show pw _ _ _ _ _ _ _ 126 _ [va_rf (h_rf base (v13)), va_rf (h_rf base (l1o))] _ _
        refine pw_putr (o := l1o) (p := v13) (aX4_readPlace 65 rfl) uf_RX4_154 (fun _ _ _ => rfl) (fun c15 hc15 _ tc15 => ?_)
        refine pw_goto (tgt := 151) (aX4_readPlace 66 rfl) (by decide) ?_
        refine pw_aloadn (aX4_readPlace 77 rfl) rfl ?_
        exact pw_aret (o := l1o) (aX4_readPlace 78 rfl) (pk_t hok13 tc15 (by decide))
      · skip
        refine pw_iloadn (aX4_readPlace 67 rfl) rfl ?_
        refine pw_bipush (v := (9 : Int32)) (aX4_readPlace 68 rfl) rfl ?_
        refine pw_icne (tgt := 151) (aX4_readPlace 69 rfl) (by decide) (fun b15 => ?_) (fun b15 => ?_)
        · skip
          refine pw_aloadn (aX4_readPlace 70 rfl) rfl ?_
          refine pw_iconst (v := (4 : Int32)) (aX4_readPlace 71 rfl) rfl ?_
          refine pw_puti (o := l1o) (aX4_readPlace 72 rfl) uf_RX4_144 (fun _ _ _ => rfl) (fun c17 hc17 _ tc17 => ?_)
          refine pw_aloadn (aX4_readPlace 73 rfl) rfl ?_
          refine pw_aloadn (aX4_readPlace 74 rfl) rfl ?_
          refine pw_callV (Bs := []) (rest := [va_rf (h_rf base (l1o))]) (aX4_readPlace 75 rfl) um_RX4_158 ujX4_readBlock wc_RX4_158.2.2.2.2 (by decide) (by decide) rfl rfl (fun d => rX4_readBlock hkb  n sl SH (h_up FI c17 0 ((4 : Int32))) FL FR hok) (fun v17 n17 sl17 SH17 FI17 FL17 FR17 hok17 _ => ?_)
          show pw _ _ _ _ _ _ _ 148 _ [va_rf (h_rf base (v17)), va_rf (h_rf base (l1o))] _ _
          refine pw_putr (o := l1o) (p := v17) (aX4_readPlace 76 rfl) uf_RX4_162 (fun _ _ _ => rfl) (fun c19 hc19 _ tc19 => ?_)
          refine pw_aloadn (aX4_readPlace 77 rfl) rfl ?_
          exact pw_aret (o := l1o) (aX4_readPlace 78 rfl) (pk_t hok17 tc19 (by decide))
        · skip
          refine pw_aloadn (aX4_readPlace 77 rfl) rfl ?_
          exact pw_aret (o := l1o) (aX4_readPlace 78 rfl) hok
set_option maxHeartbeats 4000000 in
set_option maxRecDepth 100000 in
theorem rX4_readPlace_41 {sk : xK} {base N d : Nat}  (hkb : x_kb sk base)  (l1o : Option Nat) (l2i : Int32)  (n sl : Nat) (SH : Nat → Nat × Nat) (FI : Nat → Nat → Int32) (FL : Nat → Nat → Int64) (FR : Nat → Nat → Option Nat) (hok : pk n SH FR)   : pw (pj_A base) sk base N d none 50 41 [(0, .ref (base + 110)), (1, va_rf (h_rf base (l1o))), (2, .int (l2i))] [] (n, sl, SH, FI, FL, FR) (RX4_readPlace_41   l1o l2i n sl SH FI FL FR) := by
  unfold RX4_readPlace_41
  refine pw_aloadn (aX4_readPlace 20 rfl) rfl ?_
  refine pw_callV (Bs := []) (rest := []) (aX4_readPlace 21 rfl) um_RX4_48 ujX4_take wc_RX4_48.2.2.2.2 (by decide) (by decide) rfl rfl (fun d => rX4_take hkb  n sl SH FI FL FR hok) (fun v0 n0 sl0 SH0 FI0 FL0 FR0 hok0 _ => ?_)
  show pw _ _ _ _ _ _ _ 45 _ [] _ _
  exact pw_Li (L2 := [(0, .ref (base + 110)), (1, va_rf (h_rf base (l1o))), (2, .int (l2i))]) [0, 1, 2] (rX4_readPlace_45 hkb  (l1o) (l2i) n0 sl0 SH0 FI0 FL0 FR0 hok0  ) ⟨rfl, rfl, rfl, trivial⟩
set_option maxHeartbeats 4000000 in
set_option maxRecDepth 100000 in
theorem rX4_readPlace {sk : xK} {base N d : Nat} (hkb : x_kb sk base)  (n sl : Nat) (SH : Nat → Nat × Nat) (FI : Nat → Nat → Int32) (FL : Nat → Nat → Int64) (FR : Nat → Nat → Option Nat) (hok : pk n SH FR)  : pw (pj_A base) sk base N d none 50 0 [(0, .ref (base + 110))] [] (n, sl, SH, FI, FL, FR) (RX4_readPlace  n sl SH FI FL FR) := by
  unfold RX4_readPlace
  refine pw_new hok (aX4_readPlace 0 rfl) uw_RX4_133 (fun v0 n0 sl0 SH0 FI0 FL0 FR0 hok0 _ => ?_)
  refine pw_dup (aX4_readPlace 1 rfl) ?_
  refine pw_callN (Bs := []) (rest := [.ref (base + n)]) (aX4_readPlace 2 rfl) um_RX4_143 ujX6_init wc_RX4_143.2.2.2.2 (by decide) rfl rfl (fun d => rX6_init hkb n n0 sl0 SH0 FI0 FL0 FR0 hok0) (fun v1 n1 sl1 SH1 FI1 FL1 FR1 hok1 _ => ?_)
  show pw _ _ _ _ _ _ _ 7 _ [.ref (base + n)] _ _
  refine pw_astoren (L2 := [(1, .ref (base + n)), (0, .ref (base + 110))]) (aX4_readPlace 3 rfl) rfl ?_
  refine pw_aloadn (aX4_readPlace 4 rfl) rfl ?_
  refine pw_getr (v := .int (FI1 110 8)) (aX4_readPlace 5 rfl) uf_RX4_51 un_RX4_51 rfl ?_
  refine pw_istoren (L2 := [(2, .int (FI1 110 8)), (1, .ref (base + n)), (0, .ref (base + 110))]) (aX4_readPlace 6 rfl) rfl ?_
  refine pw_iloadn (aX4_readPlace 7 rfl) rfl ?_
  refine pw_cf (pw_callS (As := [.int (FI1 110 8)]) (rest := []) (aX4_readPlace 8 rfl) um_RX4_128 ujX4_beginsPlace wc_RX4_128.2.2.2.2 (by decide) rfl rfl (fun d => rX4_beginsPlace hkb (FI1 110 8) n1 sl1 SH1 FI1 FL1 FR1 hok1) (fun v2 n2 sl2 SH2 FI2 FL2 FR2 _ hC => ?_))
  obtain ⟨rfl, hC⟩ := hC; cases hC
  show pw _ _ _ _ _ _ _ 17 _ [.int (fX4_beginsPlace (FI1 110 8) SH1 FI1 FL1 FR1)] _ _
  refine pw_ifne (tgt := 28) (aX4_readPlace 9 rfl) (by decide) (fun b3 => ?_) (fun b3 => ?_)
  · skip
    refine pw_aloadn (aX4_readPlace 10 rfl) rfl ?_
    refine pw_iconst (v := (1 : Int32)) (aX4_readPlace 11 rfl) rfl ?_
    refine pw_callV (Bs := [.int ((1 : Int32))]) (rest := []) (aX4_readPlace 12 rfl) um_RX4_69 ujX4_refuse wc_RX4_69.2.2.2.2 (by decide) (by decide) rfl rfl (fun d => rX4_refuse hkb ((1 : Int32)) n1 sl1 SH1 FI1 FL1 FR1 hok1) (fun v4 n4 sl4 SH4 FI4 FL4 FR4 hok4 _ => ?_)
    show pw _ _ _ _ _ _ _ 25 _ [] _ _
    refine pw_goto (tgt := 45) (aX4_readPlace 13 rfl) (by decide) ?_
    exact pw_Li (L2 := [(0, .ref (base + 110)), (1, va_rf (h_rf base (some n))), (2, .int (FI1 110 8))]) [2, 1, 0] (rX4_readPlace_45 hkb  (some n) (FI1 110 8) n4 sl4 SH4 FI4 FL4 FR4 hok4  ) ⟨rfl, rfl, rfl, trivial⟩
  · skip
    refine pw_iloadn (aX4_readPlace 14 rfl) rfl ?_
    refine pw_bipush (v := (91 : Int32)) (aX4_readPlace 15 rfl) rfl ?_
    refine pw_icne (tgt := 41) (aX4_readPlace 16 rfl) (by decide) (fun b5 => ?_) (fun b5 => ?_)
    · skip
      refine pw_aloadn (aX4_readPlace 17 rfl) rfl ?_
      refine pw_callV (Bs := []) (rest := []) (aX4_readPlace 18 rfl) um_RX4_117 ujX4_raise wc_RX4_117.2.2.2.2 (by decide) (by decide) rfl rfl (fun d => rX4_raise hkb  n1 sl1 SH1 FI1 FL1 FR1 hok1) (fun v6 n6 sl6 SH6 FI6 FL6 FR6 hok6 _ => ?_)
      show pw _ _ _ _ _ _ _ 38 _ [.int (v6)] _ _
      refine pw_ifeq (tgt := 45) (aX4_readPlace 19 rfl) (by decide) (fun b7 => ?_) (fun b7 => ?_)
      · skip
        exact pw_Li (L2 := [(0, .ref (base + 110)), (1, va_rf (h_rf base (some n))), (2, .int (FI1 110 8))]) [2, 1, 0] (rX4_readPlace_45 hkb  (some n) (FI1 110 8) n6 sl6 SH6 FI6 FL6 FR6 hok6  ) ⟨rfl, rfl, rfl, trivial⟩
      · skip
        exact pw_Li (L2 := [(0, .ref (base + 110)), (1, va_rf (h_rf base (some n))), (2, .int (FI1 110 8))]) [2, 1, 0] (rX4_readPlace_41 hkb  (some n) (FI1 110 8) n6 sl6 SH6 FI6 FL6 FR6 hok6  ) ⟨rfl, rfl, rfl, trivial⟩
    · skip
      exact pw_Li (L2 := [(0, .ref (base + 110)), (1, va_rf (h_rf base (some n))), (2, .int (FI1 110 8))]) [2, 1, 0] (rX4_readPlace_41 hkb  (some n) (FI1 110 8) n1 sl1 SH1 FI1 FL1 FR1 hok1  ) ⟨rfl, rfl, rfl, trivial⟩
set_option maxHeartbeats 4000000 in
set_option maxRecDepth 100000 in
theorem rX4_readWidth {sk : xK} {base N d : Nat} (hkb : x_kb sk base) (a1 : Option Nat) (n sl : Nat) (SH : Nat → Nat × Nat) (FI : Nat → Nat → Int32) (FL : Nat → Nat → Int64) (FR : Nat → Nat → Option Nat) (hok : pk n SH FR)  : pw pj_V sk base N d none 48 0 [(0, .ref (base + 110)), (1, va_rf (h_rf base (a1)))] [] (n, sl, SH, FI, FL, FR) (RX4_readWidth a1 n sl SH FI FL FR) := by
  unfold RX4_readWidth
  refine pw_aloadn (aX4_readWidth 0 rfl) rfl ?_
  refine pw_bipush (v := (47 : Int32)) (aX4_readWidth 1 rfl) rfl ?_
  refine pw_callV (Bs := [.int ((47 : Int32))]) (rest := []) (aX4_readWidth 2 rfl) um_RX4_83 ujX4_expect wc_RX4_83.2.2.2.2 (by decide) (by decide) rfl rfl (fun d => rX4_expect hkb ((47 : Int32)) n sl SH FI FL FR hok) (fun v0 n0 sl0 SH0 FI0 FL0 FR0 hok0 _ => ?_)
  show pw _ _ _ _ _ _ _ 6 _ [] _ _
  refine pw_aloadn (aX4_readWidth 3 rfl) rfl ?_
  refine pw_getr (v := .int (FI0 110 8)) (aX4_readWidth 4 rfl) uf_RX4_51 un_RX4_51 rfl ?_
  refine pw_iconst (v := (5 : Int32)) (aX4_readWidth 5 rfl) rfl ?_
  refine pw_icne (tgt := 30) (aX4_readWidth 6 rfl) (by decide) (fun b1 => ?_) (fun b1 => ?_)
  · skip
    refine pw_aloadn (aX4_readWidth 7 rfl) rfl ?_
    refine pw_getr (v := .long (FL0 110 9)) (aX4_readWidth 8 rfl) uf_RX4_62 un_RX4_62 rfl ?_
    refine pw_ldc2 (v := (64 : Int64)) (aX4_readWidth 9 rfl) uk_RX4_138 ?_
    refine pw_lcle (tgt := 30) (aX4_readWidth 10 rfl) (aX4_readWidth 11 rfl) (by decide) (fun b2 => ?_) (fun b2 => ?_)
    · skip
      refine pw_aloadn (aX4_readWidth 12 rfl) rfl ?_
      refine pw_iconst (v := (3 : Int32)) (aX4_readWidth 13 rfl) rfl ?_
      refine pw_callV (Bs := [.int ((3 : Int32))]) (rest := []) (aX4_readWidth 14 rfl) um_RX4_69 ujX4_refuse wc_RX4_69.2.2.2.2 (by decide) (by decide) rfl rfl (fun d => rX4_refuse hkb ((3 : Int32)) n0 sl0 SH0 FI0 FL0 FR0 hok0) (fun v3 n3 sl3 SH3 FI3 FL3 FR3 hok3 _ => ?_)
      show pw _ _ _ _ _ _ _ 30 _ [] _ _
      refine pw_aloadn (aX4_readWidth 15 rfl) rfl ?_
      refine pw_aloadn (aX4_readWidth 16 rfl) rfl ?_
      refine pw_getr (v := .long (FL3 110 9)) (aX4_readWidth 17 rfl) uf_RX4_62 un_RX4_62 rfl ?_
      refine pw_l2i (aX4_readWidth 18 rfl) ?_
      refine pw_puti (o := a1) (aX4_readWidth 19 rfl) uf_RX4_140 (fun _ _ _ => rfl) (fun c5 hc5 _ tc5 => ?_)
      refine pw_aloadn (aX4_readWidth 20 rfl) rfl ?_
      refine pw_iconst (v := (5 : Int32)) (aX4_readWidth 21 rfl) rfl ?_
      refine pw_callV (Bs := [.int ((5 : Int32))]) (rest := []) (aX4_readWidth 22 rfl) um_RX4_83 ujX4_expect wc_RX4_83.2.2.2.2 (by decide) (by decide) rfl rfl (fun d => rX4_expect hkb ((5 : Int32)) n3 sl3 SH3 (h_up FI3 c5 4 ((FL3 110 9).toInt32)) FL3 FR3 hok3) (fun v5 n5 sl5 SH5 FI5 FL5 FR5 hok5 _ => ?_)
      show pw _ _ _ _ _ _ _ 44 _ [] _ _
      exact pw_vret (aX4_readWidth 23 rfl) hok5
    · skip
      refine pw_aloadn (aX4_readWidth 15 rfl) rfl ?_
      refine pw_aloadn (aX4_readWidth 16 rfl) rfl ?_
      refine pw_getr (v := .long (FL0 110 9)) (aX4_readWidth 17 rfl) uf_RX4_62 un_RX4_62 rfl ?_
      refine pw_l2i (aX4_readWidth 18 rfl) ?_
      refine pw_puti (o := a1) (aX4_readWidth 19 rfl) uf_RX4_140 (fun _ _ _ => rfl) (fun c7 hc7 _ tc7 => ?_)
      refine pw_aloadn (aX4_readWidth 20 rfl) rfl ?_
      refine pw_iconst (v := (5 : Int32)) (aX4_readWidth 21 rfl) rfl ?_
      refine pw_callV (Bs := [.int ((5 : Int32))]) (rest := []) (aX4_readWidth 22 rfl) um_RX4_83 ujX4_expect wc_RX4_83.2.2.2.2 (by decide) (by decide) rfl rfl (fun d => rX4_expect hkb ((5 : Int32)) n0 sl0 SH0 (h_up FI0 c7 4 ((FL0 110 9).toInt32)) FL0 FR0 hok0) (fun v7 n7 sl7 SH7 FI7 FL7 FR7 hok7 _ => ?_)
      show pw _ _ _ _ _ _ _ 44 _ [] _ _
      exact pw_vret (aX4_readWidth 23 rfl) hok7
  · skip
    refine pw_aloadn (aX4_readWidth 15 rfl) rfl ?_
    refine pw_aloadn (aX4_readWidth 16 rfl) rfl ?_
    refine pw_getr (v := .long (FL0 110 9)) (aX4_readWidth 17 rfl) uf_RX4_62 un_RX4_62 rfl ?_
    refine pw_l2i (aX4_readWidth 18 rfl) ?_
    refine pw_puti (o := a1) (aX4_readWidth 19 rfl) uf_RX4_140 (fun _ _ _ => rfl) (fun c9 hc9 _ tc9 => ?_)
    refine pw_aloadn (aX4_readWidth 20 rfl) rfl ?_
    refine pw_iconst (v := (5 : Int32)) (aX4_readWidth 21 rfl) rfl ?_
    refine pw_callV (Bs := [.int ((5 : Int32))]) (rest := []) (aX4_readWidth 22 rfl) um_RX4_83 ujX4_expect wc_RX4_83.2.2.2.2 (by decide) (by decide) rfl rfl (fun d => rX4_expect hkb ((5 : Int32)) n0 sl0 SH0 (h_up FI0 c9 4 ((FL0 110 9).toInt32)) FL0 FR0 hok0) (fun v9 n9 sl9 SH9 FI9 FL9 FR9 hok9 _ => ?_)
    show pw _ _ _ _ _ _ _ 44 _ [] _ _
    exact pw_vret (aX4_readWidth 23 rfl) hok9
set_option maxHeartbeats 4000000 in
set_option maxRecDepth 100000 in
theorem rX4_readLocation_80 {sk : xK} {base N d : Nat} {K39 : Option Nat → Option Nat → Int32 → Nat → Nat → (Nat → Nat × Nat) → (Nat → Nat → Int32) → (Nat → Nat → Int64) → (Nat → Nat → Option Nat) → Option Nat → hS → Prop} (hkb : x_kb sk base)  (l1o : Option Nat) (l2o : Option Nat) (l3i : Int32)  (n sl : Nat) (SH : Nat → Nat × Nat) (FI : Nat → Nat → Int32) (FL : Nat → Nat → Int64) (FR : Nat → Nat → Option Nat) (hok : pk n SH FR)  (hK39 : ∀ (l1o : Option Nat) (l2o : Option Nat) (l3i : Int32) (n sl : Nat) (SH : Nat → Nat × Nat) (FI : Nat → Nat → Int32) (FL : Nat → Nat → Int64) (FR : Nat → Nat → Option Nat), pk n SH FR → pw (pj_A base) sk base N d none 47 39 [(0, .ref (base + 110)), (1, va_rf (h_rf base (l1o))), (2, va_rf (h_rf base (l2o))), (3, .int (l3i))] [] (n, sl, SH, FI, FL, FR) (K39 l1o l2o l3i n sl SH FI FL FR)) : pw (pj_A base) sk base N d none 47 80 [(0, .ref (base + 110)), (1, va_rf (h_rf base (l1o))), (2, va_rf (h_rf base (l2o))), (3, .int (l3i))] [] (n, sl, SH, FI, FL, FR) (RX4_readLocation_80 K39  l1o l2o l3i n sl SH FI FL FR) := by
  unfold RX4_readLocation_80
  refine pw_aloadn (aX4_readLocation 41 rfl) rfl ?_
  refine pw_aloadn (aX4_readLocation 42 rfl) rfl ?_
  refine pw_callV (Bs := []) (rest := [va_rf (h_rf base (l2o))]) (aX4_readLocation 43 rfl) um_RX4_121 ujX4_readPlace wc_RX4_121.2.2.2.2 (by decide) (by decide) rfl rfl (fun d => rX4_readPlace hkb  n sl SH FI FL FR hok) (fun v0 n0 sl0 SH0 FI0 FL0 FR0 hok0 _ => ?_)
  show pw _ _ _ _ _ _ _ 85 _ [va_rf (h_rf base (v0)), va_rf (h_rf base (l2o))] _ _
  refine pw_putr (o := l2o) (p := v0) (aX4_readLocation 44 rfl) uf_RX4_132 (fun _ _ _ => rfl) (fun c2 hc2 _ tc2 => ?_)
  refine pw_aloadn (aX4_readLocation 45 rfl) rfl ?_
  refine pw_get (o := l2o) (v := fun c3 => va_rf (h_rf base ((h_up FR0 c2 5 (v0)) c3 5))) (aX4_readLocation 46 rfl) uf_RX4_132 un_RX4_132 (fun _ => rfl) (fun c3 hc3 _ tc3 => ?_)
  refine pw_astoren (L2 := [(2, va_rf (h_rf base ((h_up FR0 c2 5 (v0)) c3 5))), (0, .ref (base + 110)), (1, va_rf (h_rf base (l1o))), (3, .int (l3i))]) (aX4_readLocation 47 rfl) (by first | rfl | (simp [x_s1, x_s2, va_cat, va_ci, va_cl, va_cr, va_cn]; done) | (simp [x_s1, x_s2, va_cat, va_ci, va_cl, va_cr, va_cn]; decide)) ?_
  refine pw_aloadn (aX4_readLocation 48 rfl) rfl ?_
  refine pw_aloadn (aX4_readLocation 49 rfl) rfl ?_
  refine pw_callV (Bs := [va_rf (h_rf base ((h_up FR0 c2 5 (v0)) c3 5))]) (L2 := [(0, .ref (base + 110)), (1, va_rf (h_rf base ((h_up FR0 c2 5 (v0)) c3 5)))]) (rest := []) (aX4_readLocation 50 rfl) um_RX4_124 ujX4_readWidth wc_RX4_124.2.2.2.2 (by decide) (by decide) rfl (by first | rfl | simp [lv_args, va_cat, va_ci, va_cl, va_cr, va_cn]) (fun d => rX4_readWidth hkb ((h_up FR0 c2 5 (v0)) c3 5) n0 sl0 SH0 FI0 FL0 (h_up FR0 c2 5 (v0)) (pk_t hok0 tc2 (by decide))) (fun v3 n3 sl3 SH3 FI3 FL3 FR3 hok3 _ => ?_)
  show pw _ _ _ _ _ _ _ 98 _ [] _ _
  refine pw_iinc (v := (l3i) + (1 : Int32)) (L2 := [(3, .int ((l3i) + (1 : Int32))), (2, va_rf (h_rf base ((h_up FR0 c2 5 (v0)) c3 5))), (0, .ref (base + 110)), (1, va_rf (h_rf base (l1o)))]) (aX4_readLocation 51 rfl) rfl rfl (by first | rfl | (simp [x_s1, x_s2, va_cat, va_ci, va_cl, va_cr, va_cn]; done) | (simp [x_s1, x_s2, va_cat, va_ci, va_cl, va_cr, va_cn]; decide)) ?_
  refine pw_goto (tgt := 39) (aX4_readLocation 52 rfl) (by decide) ?_
  exact pw_Li (L2 := [(0, .ref (base + 110)), (1, va_rf (h_rf base (l1o))), (2, va_rf (h_rf base ((h_up FR0 c2 5 (v0)) c3 5))), (3, .int ((l3i) + (1 : Int32)))]) [3, 2, 0, 1] (hK39 (l1o) ((h_up FR0 c2 5 (v0)) c3 5) ((l3i) + (1 : Int32)) n3 sl3 SH3 FI3 FL3 FR3 hok3) ⟨rfl, rfl, rfl, rfl, trivial⟩
set_option maxHeartbeats 4000000 in
set_option maxRecDepth 100000 in
theorem bX4_readLocation_39 {sk : xK} {base N d : Nat} {K39 : Option Nat → Option Nat → Int32 → Nat → Nat → (Nat → Nat × Nat) → (Nat → Nat → Int32) → (Nat → Nat → Int64) → (Nat → Nat → Option Nat) → Option Nat → hS → Prop} (hkb : x_kb sk base)  (l1o : Option Nat) (l2o : Option Nat) (l3i : Int32)  (n sl : Nat) (SH : Nat → Nat × Nat) (FI : Nat → Nat → Int32) (FL : Nat → Nat → Int64) (FR : Nat → Nat → Option Nat) (hok : pk n SH FR)  (hK39 : ∀ (l1o : Option Nat) (l2o : Option Nat) (l3i : Int32) (n sl : Nat) (SH : Nat → Nat × Nat) (FI : Nat → Nat → Int32) (FL : Nat → Nat → Int64) (FR : Nat → Nat → Option Nat), pk n SH FR → pw (pj_A base) sk base N d none 47 39 [(0, .ref (base + 110)), (1, va_rf (h_rf base (l1o))), (2, va_rf (h_rf base (l2o))), (3, .int (l3i))] [] (n, sl, SH, FI, FL, FR) (K39 l1o l2o l3i n sl SH FI FL FR)) : pw (pj_A base) sk base (N + 1) d none 47 39 [(0, .ref (base + 110)), (1, va_rf (h_rf base (l1o))), (2, va_rf (h_rf base (l2o))), (3, .int (l3i))] [] (n, sl, SH, FI, FL, FR) (BX4_readLocation_39 K39  l1o l2o l3i n sl SH FI FL FR) := by
  unfold BX4_readLocation_39
  refine pd_iloadn (aX4_readLocation 22 rfl) rfl ?_
  refine pw_bipush (v := (8 : Int32)) (aX4_readLocation 23 rfl) rfl ?_
  refine pw_icgt (tgt := 104) (aX4_readLocation 24 rfl) (by decide) (fun b0 => ?_) (fun b0 => ?_)
  · skip
    refine pw_aloadn (aX4_readLocation 53 rfl) rfl ?_
    refine pw_bipush (v := (125 : Int32)) (aX4_readLocation 54 rfl) rfl ?_
    refine pw_callV (Bs := [.int ((125 : Int32))]) (rest := []) (aX4_readLocation 55 rfl) um_RX4_83 ujX4_expect wc_RX4_83.2.2.2.2 (by decide) (by decide) rfl rfl (fun d => rX4_expect hkb ((125 : Int32)) n sl SH FI FL FR hok) (fun v1 n1 sl1 SH1 FI1 FL1 FR1 hok1 _ => ?_)
    show pw _ _ _ _ _ _ _ 110 _ [] _ _
    refine pw_aloadn (aX4_readLocation 56 rfl) rfl ?_
    refine pw_dup (aX4_readLocation 57 rfl) ?_
    refine pw_getr (v := .int (FI1 110 4)) (aX4_readLocation 58 rfl) uf_RX4_36 un_RX4_36 rfl ?_
    refine pw_iconst (v := (1 : Int32)) (aX4_readLocation 59 rfl) rfl ?_
    refine pw_isub (aX4_readLocation 60 rfl) ?_
    refine pw_putri (aX4_readLocation 61 rfl) uf_RX4_36 (fun _ _ _ => rfl) (fun t3 => ?_)
    refine pw_aloadn (aX4_readLocation 62 rfl) rfl ?_
    exact pw_aret (o := l1o) (aX4_readLocation 63 rfl) hok1
  · skip
    refine pw_aloadn (aX4_readLocation 25 rfl) rfl ?_
    refine pw_getr (v := .int (FI 110 8)) (aX4_readLocation 26 rfl) uf_RX4_51 un_RX4_51 rfl ?_
    refine pw_bipush (v := (44 : Int32)) (aX4_readLocation 27 rfl) rfl ?_
    refine pw_icne (tgt := 104) (aX4_readLocation 28 rfl) (by decide) (fun b3 => ?_) (fun b3 => ?_)
    · skip
      refine pw_aloadn (aX4_readLocation 29 rfl) rfl ?_
      refine pw_callV (Bs := []) (rest := []) (aX4_readLocation 30 rfl) um_RX4_48 ujX4_take wc_RX4_48.2.2.2.2 (by decide) (by decide) rfl rfl (fun d => rX4_take hkb  n sl SH FI FL FR hok) (fun v4 n4 sl4 SH4 FI4 FL4 FR4 hok4 _ => ?_)
      show pw _ _ _ _ _ _ _ 58 _ [] _ _
      refine pw_iloadn (aX4_readLocation 31 rfl) rfl ?_
      refine pw_bipush (v := (8 : Int32)) (aX4_readLocation 32 rfl) rfl ?_
      refine pw_icne (tgt := 80) (aX4_readLocation 33 rfl) (by decide) (fun b5 => ?_) (fun b5 => ?_)
      · skip
        refine pw_aloadn (aX4_readLocation 34 rfl) rfl ?_
        refine pw_getr (v := .int (FI4 110 8)) (aX4_readLocation 35 rfl) uf_RX4_51 un_RX4_51 rfl ?_
        refine pw_cf (pw_callS (As := [.int (FI4 110 8)]) (rest := []) (aX4_readLocation 36 rfl) um_RX4_128 ujX4_beginsPlace wc_RX4_128.2.2.2.2 (by decide) rfl rfl (fun d => rX4_beginsPlace hkb (FI4 110 8) n4 sl4 SH4 FI4 FL4 FR4 hok4) (fun v6 n6 sl6 SH6 FI6 FL6 FR6 _ hC => ?_))
        obtain ⟨rfl, hC⟩ := hC; cases hC
        show pw _ _ _ _ _ _ _ 71 _ [.int (fX4_beginsPlace (FI4 110 8) SH4 FI4 FL4 FR4)] _ _
        refine pw_ifeq (tgt := 80) (aX4_readLocation 37 rfl) (by decide) (fun b7 => ?_) (fun b7 => ?_)
        · skip
          exact pw_Li (L2 := [(0, .ref (base + 110)), (1, va_rf (h_rf base (l1o))), (2, va_rf (h_rf base (l2o))), (3, .int (l3i))]) [0, 1, 2, 3] (rX4_readLocation_80 hkb  (l1o) (l2o) (l3i) n4 sl4 SH4 FI4 FL4 FR4 hok4  hK39) ⟨rfl, rfl, rfl, rfl, trivial⟩
        · skip
          refine pw_aloadn (aX4_readLocation 38 rfl) rfl ?_
          refine pw_bipush (v := (6 : Int32)) (aX4_readLocation 39 rfl) rfl ?_
          refine pw_callV (Bs := [.int ((6 : Int32))]) (rest := []) (aX4_readLocation 40 rfl) um_RX4_69 ujX4_refuse wc_RX4_69.2.2.2.2 (by decide) (by decide) rfl rfl (fun d => rX4_refuse hkb ((6 : Int32)) n4 sl4 SH4 FI4 FL4 FR4 hok4) (fun v8 n8 sl8 SH8 FI8 FL8 FR8 hok8 _ => ?_)
          show pw _ _ _ _ _ _ _ 80 _ [] _ _
          exact pw_Li (L2 := [(0, .ref (base + 110)), (1, va_rf (h_rf base (l1o))), (2, va_rf (h_rf base (l2o))), (3, .int (l3i))]) [0, 1, 2, 3] (rX4_readLocation_80 hkb  (l1o) (l2o) (l3i) n8 sl8 SH8 FI8 FL8 FR8 hok8  hK39) ⟨rfl, rfl, rfl, rfl, trivial⟩
      · skip
        exact pw_Li (L2 := [(0, .ref (base + 110)), (1, va_rf (h_rf base (l1o))), (2, va_rf (h_rf base (l2o))), (3, .int (l3i))]) [0, 1, 2, 3] (rX4_readLocation_80 hkb  (l1o) (l2o) (l3i) n4 sl4 SH4 FI4 FL4 FR4 hok4  hK39) ⟨rfl, rfl, rfl, rfl, trivial⟩
    · skip
      refine pw_aloadn (aX4_readLocation 53 rfl) rfl ?_
      refine pw_bipush (v := (125 : Int32)) (aX4_readLocation 54 rfl) rfl ?_
      refine pw_callV (Bs := [.int ((125 : Int32))]) (rest := []) (aX4_readLocation 55 rfl) um_RX4_83 ujX4_expect wc_RX4_83.2.2.2.2 (by decide) (by decide) rfl rfl (fun d => rX4_expect hkb ((125 : Int32)) n sl SH FI FL FR hok) (fun v9 n9 sl9 SH9 FI9 FL9 FR9 hok9 _ => ?_)
      show pw _ _ _ _ _ _ _ 110 _ [] _ _
      refine pw_aloadn (aX4_readLocation 56 rfl) rfl ?_
      refine pw_dup (aX4_readLocation 57 rfl) ?_
      refine pw_getr (v := .int (FI9 110 4)) (aX4_readLocation 58 rfl) uf_RX4_36 un_RX4_36 rfl ?_
      refine pw_iconst (v := (1 : Int32)) (aX4_readLocation 59 rfl) rfl ?_
      refine pw_isub (aX4_readLocation 60 rfl) ?_
      refine pw_putri (aX4_readLocation 61 rfl) uf_RX4_36 (fun _ _ _ => rfl) (fun t11 => ?_)
      refine pw_aloadn (aX4_readLocation 62 rfl) rfl ?_
      exact pw_aret (o := l1o) (aX4_readLocation 63 rfl) hok9
theorem gX4_readLocation_39 {sk : xK} {base d : Nat}  (hkb : x_kb sk base)  (N : Nat) :  ∀ (l1o : Option Nat) (l2o : Option Nat) (l3i : Int32)  (n sl : Nat) (SH : Nat → Nat × Nat) (FI : Nat → Nat → Int32) (FL : Nat → Nat → Int64) (FR : Nat → Nat → Option Nat), pk n SH FR → pw (pj_A base) sk base N d none 47 39 [(0, .ref (base + 110)), (1, va_rf (h_rf base (l1o))), (2, va_rf (h_rf base (l2o))), (3, .int (l3i))] [] (n, sl, SH, FI, FL, FR) (GX4_readLocation_39   (N + 1) l1o l2o l3i n sl SH FI FL FR) := by
  induction N with
  | zero => intros; exact pw_0
  | succ N ih => intro   l1o l2o l3i  n sl SH FI FL FR hok; exact bX4_readLocation_39 hkb  l1o l2o l3i  n sl SH FI FL FR hok  (ih  )
theorem rX4_readLocation_39 {sk : xK} {base N d : Nat}  (hkb : x_kb sk base)  (l1o : Option Nat) (l2o : Option Nat) (l3i : Int32)  (n sl : Nat) (SH : Nat → Nat × Nat) (FI : Nat → Nat → Int32) (FL : Nat → Nat → Int64) (FR : Nat → Nat → Option Nat) (hok : pk n SH FR)   : pw (pj_A base) sk base N d none 47 39 [(0, .ref (base + 110)), (1, va_rf (h_rf base (l1o))), (2, va_rf (h_rf base (l2o))), (3, .int (l3i))] [] (n, sl, SH, FI, FL, FR) (RX4_readLocation_39   l1o l2o l3i n sl SH FI FL FR) := pw_cons (gX4_readLocation_39 hkb  N   l1o l2o l3i  n sl SH FI FL FR hok) (fun _ _ h => ⟨_, h⟩)
set_option maxHeartbeats 4000000 in
set_option maxRecDepth 100000 in
theorem rX4_readLocation {sk : xK} {base N d : Nat} (hkb : x_kb sk base)  (n sl : Nat) (SH : Nat → Nat × Nat) (FI : Nat → Nat → Int32) (FL : Nat → Nat → Int64) (FR : Nat → Nat → Option Nat) (hok : pk n SH FR)  : pw (pj_A base) sk base N d none 47 0 [(0, .ref (base + 110))] [] (n, sl, SH, FI, FL, FR) (RX4_readLocation  n sl SH FI FL FR) := by
  unfold RX4_readLocation
  refine pw_aloadn (aX4_readLocation 0 rfl) rfl ?_
  refine pw_getr (v := .int (FI 110 8)) (aX4_readLocation 1 rfl) uf_RX4_51 un_RX4_51 rfl ?_
  refine pw_bipush (v := (123 : Int32)) (aX4_readLocation 2 rfl) rfl ?_
  refine pw_icne (tgt := 16) (aX4_readLocation 3 rfl) (by decide) (fun b0 => ?_) (fun b0 => ?_)
  · skip
    refine pw_aloadn (aX4_readLocation 4 rfl) rfl ?_
    refine pw_callV (Bs := []) (rest := []) (aX4_readLocation 5 rfl) um_RX4_117 ujX4_raise wc_RX4_117.2.2.2.2 (by decide) (by decide) rfl rfl (fun d => rX4_raise hkb  n sl SH FI FL FR hok) (fun v1 n1 sl1 SH1 FI1 FL1 FR1 hok1 _ => ?_)
    show pw _ _ _ _ _ _ _ 13 _ [.int (v1)] _ _
    refine pw_ifne (tgt := 21) (aX4_readLocation 6 rfl) (by decide) (fun b2 => ?_) (fun b2 => ?_)
    · skip
      refine pw_aloadn (aX4_readLocation 7 rfl) rfl ?_
      refine pw_callV (Bs := []) (rest := []) (aX4_readLocation 8 rfl) um_RX4_121 ujX4_readPlace wc_RX4_121.2.2.2.2 (by decide) (by decide) rfl rfl (fun d => rX4_readPlace hkb  n1 sl1 SH1 FI1 FL1 FR1 hok1) (fun v3 n3 sl3 SH3 FI3 FL3 FR3 hok3 _ => ?_)
      show pw _ _ _ _ _ _ _ 20 _ [va_rf (h_rf base (v3))] _ _
      exact pw_aret (o := v3) (aX4_readLocation 9 rfl) hok3
    · skip
      refine pw_aloadn (aX4_readLocation 10 rfl) rfl ?_
      refine pw_callV (Bs := []) (rest := []) (aX4_readLocation 11 rfl) um_RX4_48 ujX4_take wc_RX4_48.2.2.2.2 (by decide) (by decide) rfl rfl (fun d => rX4_take hkb  n1 sl1 SH1 FI1 FL1 FR1 hok1) (fun v4 n4 sl4 SH4 FI4 FL4 FR4 hok4 _ => ?_)
      show pw _ _ _ _ _ _ _ 25 _ [] _ _
      refine pw_aloadn (aX4_readLocation 12 rfl) rfl ?_
      refine pw_callV (Bs := []) (rest := []) (aX4_readLocation 13 rfl) um_RX4_121 ujX4_readPlace wc_RX4_121.2.2.2.2 (by decide) (by decide) rfl rfl (fun d => rX4_readPlace hkb  n4 sl4 SH4 FI4 FL4 FR4 hok4) (fun v5 n5 sl5 SH5 FI5 FL5 FR5 hok5 _ => ?_)
      show pw _ _ _ _ _ _ _ 29 _ [va_rf (h_rf base (v5))] _ _
      refine pw_astoren (L2 := [(1, va_rf (h_rf base (v5))), (0, .ref (base + 110))]) (aX4_readLocation 14 rfl) (by first | rfl | (simp [x_s1, x_s2, va_cat, va_ci, va_cl, va_cr, va_cn]; done) | (simp [x_s1, x_s2, va_cat, va_ci, va_cl, va_cr, va_cn]; decide)) ?_
      refine pw_aloadn (aX4_readLocation 15 rfl) rfl ?_
      refine pw_aloadn (aX4_readLocation 16 rfl) rfl ?_
      refine pw_callV (Bs := [va_rf (h_rf base (v5))]) (L2 := [(0, .ref (base + 110)), (1, va_rf (h_rf base (v5)))]) (rest := []) (aX4_readLocation 17 rfl) um_RX4_124 ujX4_readWidth wc_RX4_124.2.2.2.2 (by decide) (by decide) rfl (by first | rfl | simp [lv_args, va_cat, va_ci, va_cl, va_cr, va_cn]) (fun d => rX4_readWidth hkb (v5) n5 sl5 SH5 FI5 FL5 FR5 hok5) (fun v6 n6 sl6 SH6 FI6 FL6 FR6 hok6 _ => ?_)
      show pw _ _ _ _ _ _ _ 35 _ [] _ _
      refine pw_aloadn (aX4_readLocation 18 rfl) rfl ?_
      refine pw_astoren (L2 := [(2, va_rf (h_rf base (v5))), (1, va_rf (h_rf base (v5))), (0, .ref (base + 110))]) (aX4_readLocation 19 rfl) (by first | rfl | (simp [x_s1, x_s2, va_cat, va_ci, va_cl, va_cr, va_cn]; done) | (simp [x_s1, x_s2, va_cat, va_ci, va_cl, va_cr, va_cn]; decide)) ?_
      refine pw_iconst (v := (1 : Int32)) (aX4_readLocation 20 rfl) rfl ?_
      refine pw_istoren (L2 := [(3, .int ((1 : Int32))), (2, va_rf (h_rf base (v5))), (1, va_rf (h_rf base (v5))), (0, .ref (base + 110))]) (aX4_readLocation 21 rfl) (by first | rfl | (simp [x_s1, x_s2, va_cat, va_ci, va_cl, va_cr, va_cn]; done) | (simp [x_s1, x_s2, va_cat, va_ci, va_cl, va_cr, va_cn]; decide)) ?_
      exact pw_Li (L2 := [(0, .ref (base + 110)), (1, va_rf (h_rf base (v5))), (2, va_rf (h_rf base (v5))), (3, .int ((1 : Int32)))]) [3, 2, 1, 0] (rX4_readLocation_39 hkb  (v5) (v5) ((1 : Int32)) n6 sl6 SH6 FI6 FL6 FR6 hok6  ) ⟨rfl, rfl, rfl, rfl, trivial⟩
  · skip
    refine pw_aloadn (aX4_readLocation 7 rfl) rfl ?_
    refine pw_callV (Bs := []) (rest := []) (aX4_readLocation 8 rfl) um_RX4_121 ujX4_readPlace wc_RX4_121.2.2.2.2 (by decide) (by decide) rfl rfl (fun d => rX4_readPlace hkb  n sl SH FI FL FR hok) (fun v7 n7 sl7 SH7 FI7 FL7 FR7 hok7 _ => ?_)
    show pw _ _ _ _ _ _ _ 20 _ [va_rf (h_rf base (v7))] _ _
    exact pw_aret (o := v7) (aX4_readLocation 9 rfl) hok7
set_option maxHeartbeats 4000000 in
set_option maxRecDepth 100000 in
theorem rX4_readRange {sk : xK} {base N d : Nat} (hkb : x_kb sk base) (a1 : Option Nat) (a2 : Int32) (n sl : Nat) (SH : Nat → Nat × Nat) (FI : Nat → Nat → Int32) (FL : Nat → Nat → Int64) (FR : Nat → Nat → Option Nat) (hok : pk n SH FR)  : pw pj_V sk base N d none 46 0 [(0, .ref (base + 110)), (1, va_rf (h_rf base (a1))), (2, .int (a2))] [] (n, sl, SH, FI, FL, FR) (RX4_readRange a1 a2 n sl SH FI FL FR) := by
  unfold RX4_readRange
  refine pw_aloadn (aX4_readRange 0 rfl) rfl ?_
  refine pw_getr (v := .int (FI 110 8)) (aX4_readRange 1 rfl) uf_RX4_51 un_RX4_51 rfl ?_
  refine pw_iconst (v := (5 : Int32)) (aX4_readRange 2 rfl) rfl ?_
  refine pw_iceq (tgt := 14) (aX4_readRange 3 rfl) (by decide) (fun b0 => ?_) (fun b0 => ?_)
  · skip
    refine pw_iloadn (aX4_readRange 8 rfl) rfl ?_
    refine pw_iflt (tgt := 24) (aX4_readRange 9 rfl) (by decide) (fun b1 => ?_) (fun b1 => ?_)
    · skip
      refine pw_aloadn (aX4_readRange 13 rfl) rfl ?_
      refine pw_bipush (v := (6 : Int32)) (aX4_readRange 14 rfl) rfl ?_
      refine pw_callV (Bs := [.int ((6 : Int32))]) (rest := []) (aX4_readRange 15 rfl) um_RX4_69 ujX4_refuse wc_RX4_69.2.2.2.2 (by decide) (by decide) rfl rfl (fun d => rX4_refuse hkb ((6 : Int32)) n sl SH FI FL FR hok) (fun v2 n2 sl2 SH2 FI2 FL2 FR2 hok2 _ => ?_)
      show pw _ _ _ _ _ _ _ 30 _ [] _ _
      exact pw_vret (aX4_readRange 16 rfl) hok2
    · skip
      refine pw_iloadn (aX4_readRange 10 rfl) rfl ?_
      refine pw_bipush (v := (8 : Int32)) (aX4_readRange 11 rfl) rfl ?_
      refine pw_iclt (tgt := 31) (aX4_readRange 12 rfl) (by decide) (fun b3 => ?_) (fun b3 => ?_)
      · skip
        refine pw_aloadn (aX4_readRange 17 rfl) rfl ?_
        refine pw_iloadn (aX4_readRange 18 rfl) rfl ?_
        refine pw_iconst (v := (1 : Int32)) (aX4_readRange 19 rfl) rfl ?_
        refine pw_iadd (aX4_readRange 20 rfl) ?_
        refine pw_puti (o := a1) (aX4_readRange 21 rfl) uf_RX4_108 (fun _ _ _ => rfl) (fun c5 hc5 _ tc5 => ?_)
        refine pw_aloadn (aX4_readRange 22 rfl) rfl ?_
        refine pw_get (o := a1) (v := fun c6 => va_rf (h_rf base (FR c6 2))) (aX4_readRange 23 rfl) uf_RX4_111 un_RX4_111 (fun _ => rfl) (fun c6 hc6 _ tc6 => ?_)
        refine pw_iloadn (aX4_readRange 24 rfl) rfl ?_
        refine pw_aloadn (aX4_readRange 25 rfl) rfl ?_
        refine pw_getr (v := .long (FL 110 9)) (aX4_readRange 26 rfl) uf_RX4_62 un_RX4_62 rfl ?_
        refine pw_last (ix := (a2).toInt.toNat) (o := FR c6 2) (aX4_readRange 27 rfl) rfl (fun c7 hc7 _ gc7 => ?_)
        refine pw_aloadn (aX4_readRange 28 rfl) rfl ?_
        refine pw_callV (Bs := []) (rest := []) (aX4_readRange 29 rfl) um_RX4_48 ujX4_take wc_RX4_48.2.2.2.2 (by decide) (by decide) rfl rfl (fun d => rX4_take hkb  n sl SH (h_up FI c5 5 ((a2) + ((1 : Int32)))) (h_up FL c7 (a2).toInt.toNat (FL 110 9)) FR hok) (fun v7 n7 sl7 SH7 FI7 FL7 FR7 hok7 _ => ?_)
        show pw _ _ _ _ _ _ _ 52 _ [] _ _
        refine pw_aloadn (aX4_readRange 30 rfl) rfl ?_
        refine pw_bipush (v := (17 : Int32)) (aX4_readRange 31 rfl) rfl ?_
        refine pw_callV (Bs := [.int ((17 : Int32))]) (rest := []) (aX4_readRange 32 rfl) um_RX4_83 ujX4_expect wc_RX4_83.2.2.2.2 (by decide) (by decide) rfl rfl (fun d => rX4_expect hkb ((17 : Int32)) n7 sl7 SH7 FI7 FL7 FR7 hok7) (fun v8 n8 sl8 SH8 FI8 FL8 FR8 hok8 _ => ?_)
        show pw _ _ _ _ _ _ _ 58 _ [] _ _
        refine pw_aloadn (aX4_readRange 33 rfl) rfl ?_
        refine pw_getr (v := .int (FI8 110 8)) (aX4_readRange 34 rfl) uf_RX4_51 un_RX4_51 rfl ?_
        refine pw_iconst (v := (5 : Int32)) (aX4_readRange 35 rfl) rfl ?_
        refine pw_icne (tgt := 85) (aX4_readRange 36 rfl) (by decide) (fun b9 => ?_) (fun b9 => ?_)
        · skip
          refine pw_aloadn (aX4_readRange 37 rfl) rfl ?_
          refine pw_getr (v := .long (FL8 110 9)) (aX4_readRange 38 rfl) uf_RX4_62 un_RX4_62 rfl ?_
          refine pw_aloadn (aX4_readRange 39 rfl) rfl ?_
          refine pw_get (o := a1) (v := fun c11 => va_rf (h_rf base (FR8 c11 2))) (aX4_readRange 40 rfl) uf_RX4_111 un_RX4_111 (fun _ => rfl) (fun c11 hc11 _ tc11 => ?_)
          refine pw_iloadn (aX4_readRange 41 rfl) rfl ?_
          refine pw_lald (ix := (a2).toInt.toNat) (o := FR8 c11 2) (aX4_readRange 42 rfl) rfl (fun c12 hc12 _ gc12 => ?_)
          refine pw_lcgt (tgt := 85) (aX4_readRange 43 rfl) (aX4_readRange 44 rfl) (by decide) (fun b12 => ?_) (fun b12 => ?_)
          · skip
            refine pw_aloadn (aX4_readRange 48 rfl) rfl ?_
            refine pw_get (o := a1) (v := fun c14 => va_rf (h_rf base (FR8 c14 3))) (aX4_readRange 49 rfl) uf_RX4_114 un_RX4_114 (fun _ => rfl) (fun c14 hc14 _ tc14 => ?_)
            refine pw_iloadn (aX4_readRange 50 rfl) rfl ?_
            refine pw_aloadn (aX4_readRange 51 rfl) rfl ?_
            refine pw_getr (v := .long (FL8 110 9)) (aX4_readRange 52 rfl) uf_RX4_62 un_RX4_62 rfl ?_
            refine pw_last (ix := (a2).toInt.toNat) (o := FR8 c14 3) (aX4_readRange 53 rfl) rfl (fun c15 hc15 _ gc15 => ?_)
            refine pw_aloadn (aX4_readRange 54 rfl) rfl ?_
            refine pw_iconst (v := (5 : Int32)) (aX4_readRange 55 rfl) rfl ?_
            refine pw_callV (Bs := [.int ((5 : Int32))]) (rest := []) (aX4_readRange 56 rfl) um_RX4_83 ujX4_expect wc_RX4_83.2.2.2.2 (by decide) (by decide) rfl rfl (fun d => rX4_expect hkb ((5 : Int32)) n8 sl8 SH8 FI8 (h_up FL8 c15 (a2).toInt.toNat (FL8 110 9)) FR8 hok8) (fun v15 n15 sl15 SH15 FI15 FL15 FR15 hok15 _ => ?_)
            show pw _ _ _ _ _ _ _ 100 _ [] _ _
            refine pw_aloadn (aX4_readRange 57 rfl) rfl ?_
            refine pw_bipush (v := (58 : Int32)) (aX4_readRange 58 rfl) rfl ?_
            refine pw_callV (Bs := [.int ((58 : Int32))]) (rest := []) (aX4_readRange 59 rfl) um_RX4_83 ujX4_expect wc_RX4_83.2.2.2.2 (by decide) (by decide) rfl rfl (fun d => rX4_expect hkb ((58 : Int32)) n15 sl15 SH15 FI15 FL15 FR15 hok15) (fun v16 n16 sl16 SH16 FI16 FL16 FR16 hok16 _ => ?_)
            show pw _ _ _ _ _ _ _ 106 _ [] _ _
            exact pw_vret (aX4_readRange 60 rfl) hok16
          · skip
            refine pw_aloadn (aX4_readRange 45 rfl) rfl ?_
            refine pw_iconst (v := (3 : Int32)) (aX4_readRange 46 rfl) rfl ?_
            refine pw_callV (Bs := [.int ((3 : Int32))]) (rest := []) (aX4_readRange 47 rfl) um_RX4_69 ujX4_refuse wc_RX4_69.2.2.2.2 (by decide) (by decide) rfl rfl (fun d => rX4_refuse hkb ((3 : Int32)) n8 sl8 SH8 FI8 FL8 FR8 hok8) (fun v17 n17 sl17 SH17 FI17 FL17 FR17 hok17 _ => ?_)
            show pw _ _ _ _ _ _ _ 85 _ [] _ _
            refine pw_aloadn (aX4_readRange 48 rfl) rfl ?_
            refine pw_get (o := a1) (v := fun c19 => va_rf (h_rf base (FR17 c19 3))) (aX4_readRange 49 rfl) uf_RX4_114 un_RX4_114 (fun _ => rfl) (fun c19 hc19 _ tc19 => ?_)
            refine pw_iloadn (aX4_readRange 50 rfl) rfl ?_
            refine pw_aloadn (aX4_readRange 51 rfl) rfl ?_
            refine pw_getr (v := .long (FL17 110 9)) (aX4_readRange 52 rfl) uf_RX4_62 un_RX4_62 rfl ?_
            refine pw_last (ix := (a2).toInt.toNat) (o := FR17 c19 3) (aX4_readRange 53 rfl) rfl (fun c20 hc20 _ gc20 => ?_)
            refine pw_aloadn (aX4_readRange 54 rfl) rfl ?_
            refine pw_iconst (v := (5 : Int32)) (aX4_readRange 55 rfl) rfl ?_
            refine pw_callV (Bs := [.int ((5 : Int32))]) (rest := []) (aX4_readRange 56 rfl) um_RX4_83 ujX4_expect wc_RX4_83.2.2.2.2 (by decide) (by decide) rfl rfl (fun d => rX4_expect hkb ((5 : Int32)) n17 sl17 SH17 FI17 (h_up FL17 c20 (a2).toInt.toNat (FL17 110 9)) FR17 hok17) (fun v20 n20 sl20 SH20 FI20 FL20 FR20 hok20 _ => ?_)
            show pw _ _ _ _ _ _ _ 100 _ [] _ _
            refine pw_aloadn (aX4_readRange 57 rfl) rfl ?_
            refine pw_bipush (v := (58 : Int32)) (aX4_readRange 58 rfl) rfl ?_
            refine pw_callV (Bs := [.int ((58 : Int32))]) (rest := []) (aX4_readRange 59 rfl) um_RX4_83 ujX4_expect wc_RX4_83.2.2.2.2 (by decide) (by decide) rfl rfl (fun d => rX4_expect hkb ((58 : Int32)) n20 sl20 SH20 FI20 FL20 FR20 hok20) (fun v21 n21 sl21 SH21 FI21 FL21 FR21 hok21 _ => ?_)
            show pw _ _ _ _ _ _ _ 106 _ [] _ _
            exact pw_vret (aX4_readRange 60 rfl) hok21
        · skip
          refine pw_aloadn (aX4_readRange 48 rfl) rfl ?_
          refine pw_get (o := a1) (v := fun c23 => va_rf (h_rf base (FR8 c23 3))) (aX4_readRange 49 rfl) uf_RX4_114 un_RX4_114 (fun _ => rfl) (fun c23 hc23 _ tc23 => ?_)
          refine pw_iloadn (aX4_readRange 50 rfl) rfl ?_
          refine pw_aloadn (aX4_readRange 51 rfl) rfl ?_
          refine pw_getr (v := .long (FL8 110 9)) (aX4_readRange 52 rfl) uf_RX4_62 un_RX4_62 rfl ?_
          refine pw_last (ix := (a2).toInt.toNat) (o := FR8 c23 3) (aX4_readRange 53 rfl) rfl (fun c24 hc24 _ gc24 => ?_)
          refine pw_aloadn (aX4_readRange 54 rfl) rfl ?_
          refine pw_iconst (v := (5 : Int32)) (aX4_readRange 55 rfl) rfl ?_
          refine pw_callV (Bs := [.int ((5 : Int32))]) (rest := []) (aX4_readRange 56 rfl) um_RX4_83 ujX4_expect wc_RX4_83.2.2.2.2 (by decide) (by decide) rfl rfl (fun d => rX4_expect hkb ((5 : Int32)) n8 sl8 SH8 FI8 (h_up FL8 c24 (a2).toInt.toNat (FL8 110 9)) FR8 hok8) (fun v24 n24 sl24 SH24 FI24 FL24 FR24 hok24 _ => ?_)
          show pw _ _ _ _ _ _ _ 100 _ [] _ _
          refine pw_aloadn (aX4_readRange 57 rfl) rfl ?_
          refine pw_bipush (v := (58 : Int32)) (aX4_readRange 58 rfl) rfl ?_
          refine pw_callV (Bs := [.int ((58 : Int32))]) (rest := []) (aX4_readRange 59 rfl) um_RX4_83 ujX4_expect wc_RX4_83.2.2.2.2 (by decide) (by decide) rfl rfl (fun d => rX4_expect hkb ((58 : Int32)) n24 sl24 SH24 FI24 FL24 FR24 hok24) (fun v25 n25 sl25 SH25 FI25 FL25 FR25 hok25 _ => ?_)
          show pw _ _ _ _ _ _ _ 106 _ [] _ _
          exact pw_vret (aX4_readRange 60 rfl) hok25
      · skip
        refine pw_aloadn (aX4_readRange 13 rfl) rfl ?_
        refine pw_bipush (v := (6 : Int32)) (aX4_readRange 14 rfl) rfl ?_
        refine pw_callV (Bs := [.int ((6 : Int32))]) (rest := []) (aX4_readRange 15 rfl) um_RX4_69 ujX4_refuse wc_RX4_69.2.2.2.2 (by decide) (by decide) rfl rfl (fun d => rX4_refuse hkb ((6 : Int32)) n sl SH FI FL FR hok) (fun v26 n26 sl26 SH26 FI26 FL26 FR26 hok26 _ => ?_)
        show pw _ _ _ _ _ _ _ 30 _ [] _ _
        exact pw_vret (aX4_readRange 16 rfl) hok26
  · skip
    refine pw_aloadn (aX4_readRange 4 rfl) rfl ?_
    refine pw_iconst (v := (1 : Int32)) (aX4_readRange 5 rfl) rfl ?_
    refine pw_callV (Bs := [.int ((1 : Int32))]) (rest := []) (aX4_readRange 6 rfl) um_RX4_69 ujX4_refuse wc_RX4_69.2.2.2.2 (by decide) (by decide) rfl rfl (fun d => rX4_refuse hkb ((1 : Int32)) n sl SH FI FL FR hok) (fun v27 n27 sl27 SH27 FI27 FL27 FR27 hok27 _ => ?_)
    show pw _ _ _ _ _ _ _ 13 _ [] _ _
    exact pw_vret (aX4_readRange 7 rfl) hok27
set_option maxHeartbeats 4000000 in
set_option maxRecDepth 100000 in
theorem rX4_readRows_59 {sk : xK} {base N d : Nat} {K18 : Int32 → Nat → Nat → (Nat → Nat × Nat) → (Nat → Nat → Int32) → (Nat → Nat → Int64) → (Nat → Nat → Option Nat) → Unit → hS → Prop} (hkb : x_kb sk base) (a1 : Option Nat) (l2i : Int32)  (n sl : Nat) (SH : Nat → Nat × Nat) (FI : Nat → Nat → Int32) (FL : Nat → Nat → Int64) (FR : Nat → Nat → Option Nat) (hok : pk n SH FR)  (hK18 : ∀ (l2i : Int32) (n sl : Nat) (SH : Nat → Nat × Nat) (FI : Nat → Nat → Int32) (FL : Nat → Nat → Int64) (FR : Nat → Nat → Option Nat), pk n SH FR → pw pj_V sk base N d none 45 18 [(0, .ref (base + 110)), (1, va_rf (h_rf base (a1))), (2, .int (l2i))] [] (n, sl, SH, FI, FL, FR) (K18 l2i n sl SH FI FL FR)) : pw pj_V sk base N d none 45 59 [(0, .ref (base + 110)), (1, va_rf (h_rf base (a1))), (2, .int (l2i))] [] (n, sl, SH, FI, FL, FR) (RX4_readRows_59 K18 a1 l2i n sl SH FI FL FR) := by
  unfold RX4_readRows_59
  refine pw_iinc (v := (l2i) + (1 : Int32)) (L2 := [(2, .int ((l2i) + (1 : Int32))), (0, .ref (base + 110)), (1, va_rf (h_rf base (a1)))]) (aX4_readRows 34 rfl) rfl rfl (by first | rfl | (simp [x_s1, x_s2, va_cat, va_ci, va_cl, va_cr, va_cn]; done) | (simp [x_s1, x_s2, va_cat, va_ci, va_cl, va_cr, va_cn]; decide)) ?_
  refine pw_goto (tgt := 18) (aX4_readRows 35 rfl) (by decide) ?_
  exact pw_Li (L2 := [(0, .ref (base + 110)), (1, va_rf (h_rf base (a1))), (2, .int ((l2i) + (1 : Int32)))]) [2, 0, 1] (hK18 ((l2i) + (1 : Int32)) n sl SH FI FL FR hok) ⟨rfl, rfl, rfl, trivial⟩
set_option maxHeartbeats 4000000 in
set_option maxRecDepth 100000 in
theorem bX4_readRows_18 {sk : xK} {base N d : Nat} {K18 : Int32 → Nat → Nat → (Nat → Nat × Nat) → (Nat → Nat → Int32) → (Nat → Nat → Int64) → (Nat → Nat → Option Nat) → Unit → hS → Prop} (hkb : x_kb sk base) (a1 : Option Nat) (l2i : Int32)  (n sl : Nat) (SH : Nat → Nat × Nat) (FI : Nat → Nat → Int32) (FL : Nat → Nat → Int64) (FR : Nat → Nat → Option Nat) (hok : pk n SH FR)  (hK18 : ∀ (l2i : Int32) (n sl : Nat) (SH : Nat → Nat × Nat) (FI : Nat → Nat → Int32) (FL : Nat → Nat → Int64) (FR : Nat → Nat → Option Nat), pk n SH FR → pw pj_V sk base N d none 45 18 [(0, .ref (base + 110)), (1, va_rf (h_rf base (a1))), (2, .int (l2i))] [] (n, sl, SH, FI, FL, FR) (K18 l2i n sl SH FI FL FR)) : pw pj_V sk base (N + 1) d none 45 18 [(0, .ref (base + 110)), (1, va_rf (h_rf base (a1))), (2, .int (l2i))] [] (n, sl, SH, FI, FL, FR) (BX4_readRows_18 K18 a1 l2i n sl SH FI FL FR) := by
  unfold BX4_readRows_18
  refine pd_iloadn (aX4_readRows 12 rfl) rfl ?_
  refine pw_bipush (v := (8 : Int32)) (aX4_readRows 13 rfl) rfl ?_
  refine pw_icgt (tgt := 65) (aX4_readRows 14 rfl) (by decide) (fun b0 => ?_) (fun b0 => ?_)
  · skip
    exact pw_vret (aX4_readRows 36 rfl) hok
  · skip
    refine pw_aloadn (aX4_readRows 15 rfl) rfl ?_
    refine pw_getr (v := .int (FI 110 8)) (aX4_readRows 16 rfl) uf_RX4_51 un_RX4_51 rfl ?_
    refine pw_bipush (v := (44 : Int32)) (aX4_readRows 17 rfl) rfl ?_
    refine pw_icne (tgt := 65) (aX4_readRows 18 rfl) (by decide) (fun b1 => ?_) (fun b1 => ?_)
    · skip
      refine pw_aloadn (aX4_readRows 19 rfl) rfl ?_
      refine pw_callV (Bs := []) (rest := []) (aX4_readRows 20 rfl) um_RX4_48 ujX4_take wc_RX4_48.2.2.2.2 (by decide) (by decide) rfl rfl (fun d => rX4_take hkb  n sl SH FI FL FR hok) (fun v2 n2 sl2 SH2 FI2 FL2 FR2 hok2 _ => ?_)
      show pw _ _ _ _ _ _ _ 37 _ [] _ _
      refine pw_aloadn (aX4_readRows 21 rfl) rfl ?_
      refine pw_aloadn (aX4_readRows 22 rfl) rfl ?_
      refine pw_iloadn (aX4_readRows 23 rfl) rfl ?_
      refine pw_callV (Bs := [va_rf (h_rf base (a1)), .int (l2i)]) (L2 := [(0, .ref (base + 110)), (1, va_rf (h_rf base (a1))), (2, .int (l2i))]) (rest := []) (aX4_readRows 24 rfl) um_RX4_104 ujX4_readRange wc_RX4_104.2.2.2.2 (by decide) (by decide) rfl (by first | rfl | simp [lv_args, va_cat, va_ci, va_cl, va_cr, va_cn]) (fun d => rX4_readRange hkb (a1) (l2i) n2 sl2 SH2 FI2 FL2 FR2 hok2) (fun v3 n3 sl3 SH3 FI3 FL3 FR3 hok3 _ => ?_)
      show pw _ _ _ _ _ _ _ 43 _ [] _ _
      refine pw_iloadn (aX4_readRows 25 rfl) rfl ?_
      refine pw_bipush (v := (8 : Int32)) (aX4_readRows 26 rfl) rfl ?_
      refine pw_icge (tgt := 59) (aX4_readRows 27 rfl) (by decide) (fun b4 => ?_) (fun b4 => ?_)
      · skip
        refine pw_aloadn (aX4_readRows 28 rfl) rfl ?_
        refine pw_get (o := a1) (v := fun c6 => va_rf (h_rf base (FR3 c6 4))) (aX4_readRows 29 rfl) uf_RX4_90 un_RX4_90 (fun _ => rfl) (fun c6 hc6 _ tc6 => ?_)
        refine pw_iloadn (aX4_readRows 30 rfl) rfl ?_
        refine pw_aloadn (aX4_readRows 31 rfl) rfl ?_
        refine pw_callV (Bs := []) (rest := [.int (l2i), va_rf (h_rf base (FR3 c6 4))]) (aX4_readRows 32 rfl) um_RX4_93 ujX4_readLocation wc_RX4_93.2.2.2.2 (by decide) (by decide) rfl rfl (fun d => rX4_readLocation hkb  n3 sl3 SH3 FI3 FL3 FR3 hok3) (fun v6 n6 sl6 SH6 FI6 FL6 FR6 hok6 _ => ?_)
        show pw _ _ _ _ _ _ _ 58 _ [va_rf (h_rf base (v6)), .int (l2i), va_rf (h_rf base (FR3 c6 4))] _ _
        refine pw_aast (ix := (l2i).toInt.toNat) (o := FR3 c6 4) (p := v6) (aX4_readRows 33 rfl) rfl (fun c8 wz hc8 _ _ _ gc8 tc8 => ?_)
        exact pw_Li (L2 := [(0, .ref (base + 110)), (1, va_rf (h_rf base (a1))), (2, .int (l2i))]) [0, 1, 2] (rX4_readRows_59 hkb a1 (l2i) n6 sl6 SH6 FI6 FL6 (h_up FR6 c8 (l2i).toInt.toNat (v6)) (pk_ar hok6 tc8)  hK18) ⟨rfl, rfl, rfl, trivial⟩
      · skip
        exact pw_Li (L2 := [(0, .ref (base + 110)), (1, va_rf (h_rf base (a1))), (2, .int (l2i))]) [0, 1, 2] (rX4_readRows_59 hkb a1 (l2i) n3 sl3 SH3 FI3 FL3 FR3 hok3  hK18) ⟨rfl, rfl, rfl, trivial⟩
    · skip
      exact pw_vret (aX4_readRows 36 rfl) hok
theorem gX4_readRows_18 {sk : xK} {base d : Nat}  (hkb : x_kb sk base) (a1 : Option Nat) (N : Nat) :  ∀ (l2i : Int32)  (n sl : Nat) (SH : Nat → Nat × Nat) (FI : Nat → Nat → Int32) (FL : Nat → Nat → Int64) (FR : Nat → Nat → Option Nat), pk n SH FR → pw pj_V sk base N d none 45 18 [(0, .ref (base + 110)), (1, va_rf (h_rf base (a1))), (2, .int (l2i))] [] (n, sl, SH, FI, FL, FR) (GX4_readRows_18  a1 (N + 1) l2i n sl SH FI FL FR) := by
  induction N with
  | zero => intros; exact pw_0
  | succ N ih => intro   l2i  n sl SH FI FL FR hok; exact bX4_readRows_18 hkb a1 l2i  n sl SH FI FL FR hok  (ih  )
theorem rX4_readRows_18 {sk : xK} {base N d : Nat}  (hkb : x_kb sk base) (a1 : Option Nat) (l2i : Int32)  (n sl : Nat) (SH : Nat → Nat × Nat) (FI : Nat → Nat → Int32) (FL : Nat → Nat → Int64) (FR : Nat → Nat → Option Nat) (hok : pk n SH FR)   : pw pj_V sk base N d none 45 18 [(0, .ref (base + 110)), (1, va_rf (h_rf base (a1))), (2, .int (l2i))] [] (n, sl, SH, FI, FL, FR) (RX4_readRows_18  a1 l2i n sl SH FI FL FR) := pw_cons (gX4_readRows_18 hkb a1 N   l2i  n sl SH FI FL FR hok) (fun _ _ h => ⟨_, h⟩)
set_option maxHeartbeats 4000000 in
set_option maxRecDepth 100000 in
theorem rX4_readRows {sk : xK} {base N d : Nat} (hkb : x_kb sk base) (a1 : Option Nat) (n sl : Nat) (SH : Nat → Nat × Nat) (FI : Nat → Nat → Int32) (FL : Nat → Nat → Int64) (FR : Nat → Nat → Option Nat) (hok : pk n SH FR)  : pw pj_V sk base N d none 45 0 [(0, .ref (base + 110)), (1, va_rf (h_rf base (a1)))] [] (n, sl, SH, FI, FL, FR) (RX4_readRows a1 n sl SH FI FL FR) := by
  unfold RX4_readRows
  refine pw_aloadn (aX4_readRows 0 rfl) rfl ?_
  refine pw_aloadn (aX4_readRows 1 rfl) rfl ?_
  refine pw_iconst (v := (0 : Int32)) (aX4_readRows 2 rfl) rfl ?_
  refine pw_callV (Bs := [va_rf (h_rf base (a1)), .int ((0 : Int32))]) (L2 := [(0, .ref (base + 110)), (1, va_rf (h_rf base (a1))), (2, .int ((0 : Int32)))]) (rest := []) (aX4_readRows 3 rfl) um_RX4_104 ujX4_readRange wc_RX4_104.2.2.2.2 (by decide) (by decide) rfl (by first | rfl | simp [lv_args, va_cat, va_ci, va_cl, va_cr, va_cn]) (fun d => rX4_readRange hkb (a1) ((0 : Int32)) n sl SH FI FL FR hok) (fun v0 n0 sl0 SH0 FI0 FL0 FR0 hok0 _ => ?_)
  show pw _ _ _ _ _ _ _ 6 _ [] _ _
  refine pw_aloadn (aX4_readRows 4 rfl) rfl ?_
  refine pw_get (o := a1) (v := fun c2 => va_rf (h_rf base (FR0 c2 4))) (aX4_readRows 5 rfl) uf_RX4_90 un_RX4_90 (fun _ => rfl) (fun c2 hc2 _ tc2 => ?_)
  refine pw_iconst (v := (0 : Int32)) (aX4_readRows 6 rfl) rfl ?_
  refine pw_aloadn (aX4_readRows 7 rfl) rfl ?_
  refine pw_callV (Bs := []) (rest := [.int ((0 : Int32)), va_rf (h_rf base (FR0 c2 4))]) (aX4_readRows 8 rfl) um_RX4_93 ujX4_readLocation wc_RX4_93.2.2.2.2 (by decide) (by decide) rfl rfl (fun d => rX4_readLocation hkb  n0 sl0 SH0 FI0 FL0 FR0 hok0) (fun v2 n2 sl2 SH2 FI2 FL2 FR2 hok2 _ => ?_)
  show pw _ _ _ _ _ _ _ 15 _ [va_rf (h_rf base (v2)), .int ((0 : Int32)), va_rf (h_rf base (FR0 c2 4))] _ _
  refine pw_aast (ix := 0) (o := FR0 c2 4) (p := v2) (aX4_readRows 9 rfl) rfl (fun c4 wz hc4 _ _ _ gc4 tc4 => ?_)
  refine pw_iconst (v := (1 : Int32)) (aX4_readRows 10 rfl) rfl ?_
  refine pw_istoren (L2 := [(2, .int ((1 : Int32))), (0, .ref (base + 110)), (1, va_rf (h_rf base (a1)))]) (aX4_readRows 11 rfl) (by first | rfl | (simp [x_s1, x_s2, va_cat, va_ci, va_cl, va_cr, va_cn]; done) | (simp [x_s1, x_s2, va_cat, va_ci, va_cl, va_cr, va_cn]; decide)) ?_
  exact pw_Li (L2 := [(0, .ref (base + 110)), (1, va_rf (h_rf base (a1))), (2, .int ((1 : Int32)))]) [2, 0, 1] (rX4_readRows_18 hkb a1 ((1 : Int32)) n2 sl2 SH2 FI2 FL2 (h_up FR2 c4 0 (v2)) (pk_ar hok2 tc4)  ) ⟨rfl, rfl, rfl, trivial⟩
set_option maxHeartbeats 4000000 in
set_option maxRecDepth 100000 in
theorem rX4_readDeclaration {sk : xK} {base N d : Nat} (hkb : x_kb sk base)  (n sl : Nat) (SH : Nat → Nat × Nat) (FI : Nat → Nat → Int32) (FL : Nat → Nat → Int64) (FR : Nat → Nat → Option Nat) (hok : pk n SH FR)  : pw pj_V sk base N d none 42 0 [(0, .ref (base + 110))] [] (n, sl, SH, FI, FL, FR) (RX4_readDeclaration  n sl SH FI FL FR) := by
  unfold RX4_readDeclaration
  refine pw_aloadn (aX4_readDeclaration 0 rfl) rfl ?_
  refine pw_getr (v := .ref (base + 111)) (aX4_readDeclaration 1 rfl) uf_RX4_12 un_RX4_12 (congrArg (fun r => va_rf (h_rf base r)) (q110_0 (hok).2.1)) ?_
  refine pw_aloadn (aX4_readDeclaration 2 rfl) rfl ?_
  refine pw_getr (v := .int (FI 110 7)) (aX4_readDeclaration 3 rfl) uf_RX4_45 un_RX4_45 rfl ?_
  refine pw_callV (Bs := [.int (FI 110 7)]) (rest := []) (aX4_readDeclaration 4 rfl) um_RX4_73 ujX7_letters wc_RX4_73.2.2.2.2 (by decide) (by decide) rfl rfl (fun d => rX7_letters hkb (FI 110 7) n sl SH FI FL FR hok) (fun v0 n0 sl0 SH0 FI0 FL0 FR0 hok0 _ => ?_)
  show pw _ _ _ _ _ _ _ 11 _ [va_rf (h_rf base (v0))] _ _
  refine pw_astoren (L2 := [(1, va_rf (h_rf base (v0))), (0, .ref (base + 110))]) (aX4_readDeclaration 5 rfl) (by first | rfl | (simp [x_s1, x_s2, va_cat, va_ci, va_cl, va_cr, va_cn]; done) | (simp [x_s1, x_s2, va_cat, va_ci, va_cl, va_cr, va_cn]; decide)) ?_
  refine pw_aloadn (aX4_readDeclaration 6 rfl) rfl ?_
  refine pw_getr (v := .int (FI0 110 8)) (aX4_readDeclaration 7 rfl) uf_RX4_51 un_RX4_51 rfl ?_
  refine pw_iconst (v := (4 : Int32)) (aX4_readDeclaration 8 rfl) rfl ?_
  refine pw_iceq (tgt := 28) (aX4_readDeclaration 9 rfl) (by decide) (fun b1 => ?_) (fun b1 => ?_)
  · skip
    refine pw_aloadn (aX4_readDeclaration 14 rfl) rfl ?_
    refine pw_aloadn (aX4_readDeclaration 15 rfl) rfl ?_
    refine pw_callV (Bs := [va_rf (h_rf base (v0))]) (L2 := [(0, .ref (base + 110)), (1, va_rf (h_rf base (v0)))]) (rest := []) (aX4_readDeclaration 16 rfl) um_RX4_77 ujX4_isKnown wc_RX4_77.2.2.2.2 (by decide) (by decide) rfl (by first | rfl | simp [lv_args, va_cat, va_ci, va_cl, va_cr, va_cn]) (fun d => rX4_isKnown hkb (v0) n0 sl0 SH0 FI0 FL0 FR0 hok0) (fun v2 n2 sl2 SH2 FI2 FL2 FR2 hok2 _ => ?_)
    show pw _ _ _ _ _ _ _ 33 _ [.int (v2)] _ _
    refine pw_ifeq (tgt := 44) (aX4_readDeclaration 17 rfl) (by decide) (fun b3 => ?_) (fun b3 => ?_)
    · skip
      refine pw_aloadn (aX4_readDeclaration 22 rfl) rfl ?_
      refine pw_getr (v := .int (FI2 110 3)) (aX4_readDeclaration 23 rfl) uf_RX4_32 un_RX4_32 rfl ?_
      refine pw_aloadn (aX4_readDeclaration 24 rfl) rfl ?_
      refine pw_getr (v := va_rf (h_rf base (FR2 110 2))) (aX4_readDeclaration 25 rfl) uf_RX4_24 un_RX4_24 rfl ?_
      refine pw_alen hkb (o := FR2 110 2) (aX4_readDeclaration 26 rfl) (fun c5 hc5 _ => ?_)
      refine pw_iclt (tgt := 65) (aX4_readDeclaration 27 rfl) (by decide) (fun b5 => ?_) (fun b5 => ?_)
      · skip
        refine pw_new hok2 (aX4_readDeclaration 32 rfl) uw_RX4_22 (fun v6 n6 sl6 SH6 FI6 FL6 FR6 hok6 _ => ?_)
        refine pw_dup (aX4_readDeclaration 33 rfl) ?_
        refine pw_aloadn (aX4_readDeclaration 34 rfl) rfl ?_
        refine pw_aloadn (aX4_readDeclaration 35 rfl) rfl ?_
        refine pw_getr (v := .ref (base + 111)) (aX4_readDeclaration 36 rfl) uf_RX4_12 un_RX4_12 (congrArg (fun r => va_rf (h_rf base r)) (q110_0 (hok6).2.1)) ?_
        refine pw_getr (v := .ref (base + 114)) (aX4_readDeclaration 37 rfl) uf_RX4_66 un_RX4_66 (congrArg (fun r => va_rf (h_rf base r)) (q111_2 (hok6).2.1)) ?_
        refine pw_aloadn (aX4_readDeclaration 38 rfl) rfl ?_
        refine pw_getr (v := .int (FI6 110 7)) (aX4_readDeclaration 39 rfl) uf_RX4_45 un_RX4_45 rfl ?_
        refine pw_ialdr (c := 114) (ix := (FI6 110 7).toInt.toNat) (aX4_readDeclaration 40 rfl) rfl (fun _ => ?_)
        refine pw_callN (Bs := [va_rf (h_rf base (v0)), .int (FI6 114 (FI6 110 7).toInt.toNat)]) (L2 := [(0, .ref (base + n2)), (1, va_rf (h_rf base (v0))), (2, .int (FI6 114 (FI6 110 7).toInt.toNat))]) (rest := [.ref (base + n2)]) (aX4_readDeclaration 41 rfl) um_RX4_81 ujX10_init wc_RX4_81.2.2.2.2 (by decide) rfl (by first | rfl | simp [lv_args, va_cat, va_ci, va_cl, va_cr, va_cn]) (fun d => rX10_init hkb n2 (v0) (FI6 114 (FI6 110 7).toInt.toNat) n6 sl6 SH6 FI6 FL6 FR6 hok6) (fun v7 n7 sl7 SH7 FI7 FL7 FR7 hok7 _ => ?_)
        show pw _ _ _ _ _ _ _ 85 _ [.ref (base + n2)] _ _
        refine pw_astoren (L2 := [(2, .ref (base + n2)), (1, va_rf (h_rf base (v0))), (0, .ref (base + 110))]) (aX4_readDeclaration 42 rfl) (by first | rfl | (simp [x_s1, x_s2, va_cat, va_ci, va_cl, va_cr, va_cn]; done) | (simp [x_s1, x_s2, va_cat, va_ci, va_cl, va_cr, va_cn]; decide)) ?_
        refine pw_aloadn (aX4_readDeclaration 43 rfl) rfl ?_
        refine pw_getr (v := va_rf (h_rf base (FR7 110 2))) (aX4_readDeclaration 44 rfl) uf_RX4_24 un_RX4_24 rfl ?_
        refine pw_aloadn (aX4_readDeclaration 45 rfl) rfl ?_
        refine pw_getr (v := .int (FI7 110 3)) (aX4_readDeclaration 46 rfl) uf_RX4_32 un_RX4_32 rfl ?_
        refine pw_aloadn (aX4_readDeclaration 47 rfl) rfl ?_
        refine pw_aast (ix := (FI7 110 3).toInt.toNat) (o := FR7 110 2) (p := some n2) (aX4_readDeclaration 48 rfl) rfl (fun c9 wz hc9 _ _ _ gc9 tc9 => ?_)
        refine pw_aloadn (aX4_readDeclaration 49 rfl) rfl ?_
        refine pw_dup (aX4_readDeclaration 50 rfl) ?_
        refine pw_getr (v := .int (FI7 110 3)) (aX4_readDeclaration 51 rfl) uf_RX4_32 un_RX4_32 rfl ?_
        refine pw_iconst (v := (1 : Int32)) (aX4_readDeclaration 52 rfl) rfl ?_
        refine pw_iadd (aX4_readDeclaration 53 rfl) ?_
        refine pw_putri (aX4_readDeclaration 54 rfl) uf_RX4_32 (fun _ _ _ => rfl) (fun t10 => ?_)
        refine pw_aloadn (aX4_readDeclaration 55 rfl) rfl ?_
        refine pw_callV (Bs := []) (rest := []) (aX4_readDeclaration 56 rfl) um_RX4_48 ujX4_take wc_RX4_48.2.2.2.2 (by decide) (by decide) rfl rfl (fun d => rX4_take hkb  n7 sl7 SH7 (h_up FI7 110 3 ((FI7 110 3) + ((1 : Int32)))) FL7 (h_up FR7 c9 (FI7 110 3).toInt.toNat (some n2)) (pk_ar hok7 tc9)) (fun v10 n10 sl10 SH10 FI10 FL10 FR10 hok10 _ => ?_)
        show pw _ _ _ _ _ _ _ 110 _ [] _ _
        refine pw_aloadn (aX4_readDeclaration 57 rfl) rfl ?_
        refine pw_bipush (v := (61 : Int32)) (aX4_readDeclaration 58 rfl) rfl ?_
        refine pw_callV (Bs := [.int ((61 : Int32))]) (rest := []) (aX4_readDeclaration 59 rfl) um_RX4_83 ujX4_expect wc_RX4_83.2.2.2.2 (by decide) (by decide) rfl rfl (fun d => rX4_expect hkb ((61 : Int32)) n10 sl10 SH10 FI10 FL10 FR10 hok10) (fun v11 n11 sl11 SH11 FI11 FL11 FR11 hok11 _ => ?_)
        show pw _ _ _ _ _ _ _ 116 _ [] _ _
        refine pw_aloadn (aX4_readDeclaration 60 rfl) rfl ?_
        refine pw_getr (v := .int (FI11 110 8)) (aX4_readDeclaration 61 rfl) uf_RX4_51 un_RX4_51 rfl ?_
        refine pw_iconst (v := (5 : Int32)) (aX4_readDeclaration 62 rfl) rfl ?_
        refine pw_icne (tgt := 132) (aX4_readDeclaration 63 rfl) (by decide) (fun b12 => ?_) (fun b12 => ?_)
        · skip
          refine pw_aloadn (aX4_readDeclaration 64 rfl) rfl ?_
          refine pw_aloadn (aX4_readDeclaration 65 rfl) rfl ?_
          refine pw_callV (Bs := [.ref (base + n2)]) (rest := []) (aX4_readDeclaration 66 rfl) um_RX4_86 ujX4_readRows wc_RX4_86.2.2.2.2 (by decide) (by decide) rfl rfl (fun d => rX4_readRows hkb (some n2) n11 sl11 SH11 FI11 FL11 FR11 hok11) (fun v13 n13 sl13 SH13 FI13 FL13 FR13 hok13 _ => ?_)
          show pw _ _ _ _ _ _ _ 129 _ [] _ _
          refine pw_goto (tgt := 142) (aX4_readDeclaration 67 rfl) (by decide) ?_
          refine pw_aloadn (aX4_readDeclaration 74 rfl) rfl ?_
          refine pw_bipush (v := (59 : Int32)) (aX4_readDeclaration 75 rfl) rfl ?_
          refine pw_callV (Bs := [.int ((59 : Int32))]) (rest := []) (aX4_readDeclaration 76 rfl) um_RX4_83 ujX4_expect wc_RX4_83.2.2.2.2 (by decide) (by decide) rfl rfl (fun d => rX4_expect hkb ((59 : Int32)) n13 sl13 SH13 FI13 FL13 FR13 hok13) (fun v14 n14 sl14 SH14 FI14 FL14 FR14 hok14 _ => ?_)
          show pw _ _ _ _ _ _ _ 148 _ [] _ _
          exact pw_vret (aX4_readDeclaration 77 rfl) hok14
        · skip
          refine pw_aloadn (aX4_readDeclaration 68 rfl) rfl ?_
          refine pw_getr (v := va_rf (h_rf base (FR11 n2 4))) (aX4_readDeclaration 69 rfl) uf_RX4_90 un_RX4_90 rfl ?_
          refine pw_iconst (v := (0 : Int32)) (aX4_readDeclaration 70 rfl) rfl ?_
          refine pw_aloadn (aX4_readDeclaration 71 rfl) rfl ?_
          refine pw_callV (Bs := []) (rest := [.int ((0 : Int32)), va_rf (h_rf base (FR11 n2 4))]) (aX4_readDeclaration 72 rfl) um_RX4_93 ujX4_readLocation wc_RX4_93.2.2.2.2 (by decide) (by decide) rfl rfl (fun d => rX4_readLocation hkb  n11 sl11 SH11 FI11 FL11 FR11 hok11) (fun v15 n15 sl15 SH15 FI15 FL15 FR15 hok15 _ => ?_)
          show pw _ _ _ _ _ _ _ 141 _ [va_rf (h_rf base (v15)), .int ((0 : Int32)), va_rf (h_rf base (FR11 n2 4))] _ _
          refine pw_aast (ix := 0) (o := FR11 n2 4) (p := v15) (aX4_readDeclaration 73 rfl) rfl (fun c17 wz hc17 _ _ _ gc17 tc17 => ?_)
          refine pw_aloadn (aX4_readDeclaration 74 rfl) rfl ?_
          refine pw_bipush (v := (59 : Int32)) (aX4_readDeclaration 75 rfl) rfl ?_
          refine pw_callV (Bs := [.int ((59 : Int32))]) (rest := []) (aX4_readDeclaration 76 rfl) um_RX4_83 ujX4_expect wc_RX4_83.2.2.2.2 (by decide) (by decide) rfl rfl (fun d => rX4_expect hkb ((59 : Int32)) n15 sl15 SH15 FI15 FL15 (h_up FR15 c17 0 (v15)) (pk_ar hok15 tc17)) (fun v17 n17 sl17 SH17 FI17 FL17 FR17 hok17 _ => ?_)
          show pw _ _ _ _ _ _ _ 148 _ [] _ _
          exact pw_vret (aX4_readDeclaration 77 rfl) hok17
      · skip
        refine pw_aloadn (aX4_readDeclaration 28 rfl) rfl ?_
        refine pw_bipush (v := (6 : Int32)) (aX4_readDeclaration 29 rfl) rfl ?_
        refine pw_callV (Bs := [.int ((6 : Int32))]) (rest := []) (aX4_readDeclaration 30 rfl) um_RX4_69 ujX4_refuse wc_RX4_69.2.2.2.2 (by decide) (by decide) rfl rfl (fun d => rX4_refuse hkb ((6 : Int32)) n2 sl2 SH2 FI2 FL2 FR2 hok2) (fun v18 n18 sl18 SH18 FI18 FL18 FR18 hok18 _ => ?_)
        show pw _ _ _ _ _ _ _ 62 _ [] _ _
        refine pw_goto (tgt := 148) (aX4_readDeclaration 31 rfl) (by decide) ?_
        exact pw_vret (aX4_readDeclaration 77 rfl) hok18
    · skip
      refine pw_aloadn (aX4_readDeclaration 18 rfl) rfl ?_
      refine pw_iconst (v := (4 : Int32)) (aX4_readDeclaration 19 rfl) rfl ?_
      refine pw_callV (Bs := [.int ((4 : Int32))]) (rest := []) (aX4_readDeclaration 20 rfl) um_RX4_69 ujX4_refuse wc_RX4_69.2.2.2.2 (by decide) (by decide) rfl rfl (fun d => rX4_refuse hkb ((4 : Int32)) n2 sl2 SH2 FI2 FL2 FR2 hok2) (fun v19 n19 sl19 SH19 FI19 FL19 FR19 hok19 _ => ?_)
      show pw _ _ _ _ _ _ _ 41 _ [] _ _
      refine pw_goto (tgt := 148) (aX4_readDeclaration 21 rfl) (by decide) ?_
      exact pw_vret (aX4_readDeclaration 77 rfl) hok19
  · skip
    refine pw_aloadn (aX4_readDeclaration 10 rfl) rfl ?_
    refine pw_iconst (v := (1 : Int32)) (aX4_readDeclaration 11 rfl) rfl ?_
    refine pw_callV (Bs := [.int ((1 : Int32))]) (rest := []) (aX4_readDeclaration 12 rfl) um_RX4_69 ujX4_refuse wc_RX4_69.2.2.2.2 (by decide) (by decide) rfl rfl (fun d => rX4_refuse hkb ((1 : Int32)) n0 sl0 SH0 FI0 FL0 FR0 hok0) (fun v20 n20 sl20 SH20 FI20 FL20 FR20 hok20 _ => ?_)
    show pw _ _ _ _ _ _ _ 25 _ [] _ _
    refine pw_goto (tgt := 148) (aX4_readDeclaration 13 rfl) (by decide) ?_
    exact pw_vret (aX4_readDeclaration 77 rfl) hok20
set_option maxHeartbeats 4000000 in
set_option maxRecDepth 100000 in
theorem rX4_begin {sk : xK} {base N d : Nat} (hkb : x_kb sk base) (a1 : Option Nat) (a2 : Int32) (n sl : Nat) (SH : Nat → Nat × Nat) (FI : Nat → Nat → Int32) (FL : Nat → Nat → Int64) (FR : Nat → Nat → Option Nat) (hok : pk n SH FR)  : pw pj_V sk base N d none 36 0 [(0, .ref (base + 110)), (1, va_rf (h_rf base (a1))), (2, .int (a2))] [] (n, sl, SH, FI, FL, FR) (RX4_begin a1 a2 n sl SH FI FL FR) := by
  unfold RX4_begin
  refine pw_aloadn (aX4_begin 0 rfl) rfl ?_
  refine pw_getr (v := .ref (base + 111)) (aX4_begin 1 rfl) uf_RX4_12 un_RX4_12 (congrArg (fun r => va_rf (h_rf base r)) (q110_0 (hok).2.1)) ?_
  refine pw_aloadn (aX4_begin 2 rfl) rfl ?_
  refine pw_iloadn (aX4_begin 3 rfl) rfl ?_
  refine pw_callV (Bs := [va_rf (h_rf base (a1)), .int (a2)]) (L2 := [(0, .ref (base + 111)), (1, va_rf (h_rf base (a1))), (2, .int (a2))]) (rest := []) (aX4_begin 4 rfl) um_RX4_28 ujX7_readAll wc_RX4_28.2.2.2.2 (by decide) (by decide) rfl (by first | rfl | simp [lv_args, va_cat, va_ci, va_cl, va_cr, va_cn]) (fun d => rX7_readAll hkb (a1) (a2) n sl SH FI FL FR hok) (fun v0 n0 sl0 SH0 FI0 FL0 FR0 hok0 _ => ?_)
  show pw _ _ _ _ _ _ _ 9 _ [] _ _
  refine pw_aloadn (aX4_begin 5 rfl) rfl ?_
  refine pw_bipush (v := (12 : Int32)) (aX4_begin 6 rfl) rfl ?_
  refine pw_newq (zz := 12) hok0 (aX4_begin 7 rfl) uq_RX4_22 rfl (fun v1 n1 sl1 SH1 FI1 FL1 FR1 hok1 _ => ?_)
  refine pw_putrr (p := some n0) (aX4_begin 8 rfl) uf_RX4_24 (fun _ _ _ => rfl) (fun t3 => ?_)
  refine pw_aloadn (aX4_begin 9 rfl) rfl ?_
  refine pw_iconst (v := (0 : Int32)) (aX4_begin 10 rfl) rfl ?_
  refine pw_putri (aX4_begin 11 rfl) uf_RX4_32 (fun _ _ _ => rfl) (fun t4 => ?_)
  refine pw_aloadn (aX4_begin 12 rfl) rfl ?_
  refine pw_iconst (v := (0 : Int32)) (aX4_begin 13 rfl) rfl ?_
  refine pw_putri (aX4_begin 14 rfl) uf_RX4_36 (fun _ _ _ => rfl) (fun t5 => ?_)
  refine pw_aloadn (aX4_begin 15 rfl) rfl ?_
  refine pw_iconst (v := (0 : Int32)) (aX4_begin 16 rfl) rfl ?_
  refine pw_putri (aX4_begin 17 rfl) uf_RX4_39 (fun _ _ _ => rfl) (fun t6 => ?_)
  refine pw_aloadn (aX4_begin 18 rfl) rfl ?_
  refine pw_iconst (v := (-1 : Int32)) (aX4_begin 19 rfl) rfl ?_
  refine pw_putri (aX4_begin 20 rfl) uf_RX4_42 (fun _ _ _ => rfl) (fun t7 => ?_)
  refine pw_aloadn (aX4_begin 21 rfl) rfl ?_
  refine pw_iconst (v := (-1 : Int32)) (aX4_begin 22 rfl) rfl ?_
  refine pw_putri (aX4_begin 23 rfl) uf_RX4_45 (fun _ _ _ => rfl) (fun t8 => ?_)
  refine pw_aloadn (aX4_begin 24 rfl) rfl ?_
  refine pw_callV (Bs := []) (rest := []) (aX4_begin 25 rfl) um_RX4_48 ujX4_take wc_RX4_48.2.2.2.2 (by decide) (by decide) rfl rfl (fun d => rX4_take hkb  n1 sl1 SH1 (h_up (h_up (h_up (h_up (h_up FI1 110 3 ((0 : Int32))) 110 4 ((0 : Int32))) 110 5 ((0 : Int32))) 110 6 ((-1 : Int32))) 110 7 ((-1 : Int32))) FL1 (h_up FR1 110 2 (some n0)) (pk_w hok1 (by decide))) (fun v8 n8 sl8 SH8 FI8 FL8 FR8 hok8 _ => ?_)
  show pw _ _ _ _ _ _ _ 47 _ [] _ _
  exact pw_vret (aX4_begin 26 rfl) hok8
set_option maxHeartbeats 4000000 in
set_option maxRecDepth 100000 in
theorem rX0_put {sk : xK} {base N d : Nat} (hkb : x_kb sk base) (a1 : Int32) (n sl : Nat) (SH : Nat → Nat × Nat) (FI : Nat → Nat → Int32) (FL : Nat → Nat → Int64) (FR : Nat → Nat → Option Nat) (hok : pk n SH FR)  : pw pj_V sk base N d none 14 0 [(0, .ref (base + 119)), (1, .int (a1))] [] (n, sl, SH, FI, FL, FR) (RX0_put a1 n sl SH FI FL FR) := by
  unfold RX0_put
  refine pw_aloadn (aX0_put 0 rfl) rfl ?_
  refine pw_getr (v := .int (FI 119 1)) (aX0_put 1 rfl) uf_RX0_15 un_RX0_15 rfl ?_
  refine pw_aloadn (aX0_put 2 rfl) rfl ?_
  refine pw_getr (v := .ref (base + 120)) (aX0_put 3 rfl) uf_RX0_9 un_RX0_9 (congrArg (fun r => va_rf (h_rf base r)) (q119_0 (hok).2.1)) ?_
  refine pw_alenr hkb (c := 120) (aX0_put 4 rfl) ?_
  refine pw_icge (tgt := 26) (aX0_put 5 rfl) (by decide) (fun b0 => ?_) (fun b0 => ?_)
  · skip
    refine pw_aloadn (aX0_put 6 rfl) rfl ?_
    refine pw_getr (v := .ref (base + 120)) (aX0_put 7 rfl) uf_RX0_9 un_RX0_9 (congrArg (fun r => va_rf (h_rf base r)) (q119_0 (hok).2.1)) ?_
    refine pw_aloadn (aX0_put 8 rfl) rfl ?_
    refine pw_getr (v := .int (FI 119 1)) (aX0_put 9 rfl) uf_RX0_15 un_RX0_15 rfl ?_
    refine pw_iloadn (aX0_put 10 rfl) rfl ?_
    refine pw_sipush (v := (255 : Int32)) (aX0_put 11 rfl) rfl ?_
    refine pw_iand (aX0_put 12 rfl) ?_
    refine pw_iastr (c := 120) (ix := (FI 119 1).toInt.toNat) (aX0_put 13 rfl) rfl (fun _ => ?_)
    refine pw_aloadn (aX0_put 14 rfl) rfl ?_
    refine pw_dup (aX0_put 15 rfl) ?_
    refine pw_getr (v := .int (FI 119 1)) (aX0_put 16 rfl) uf_RX0_15 un_RX0_15 rfl ?_
    refine pw_iconst (v := (1 : Int32)) (aX0_put 17 rfl) rfl ?_
    refine pw_iadd (aX0_put 18 rfl) ?_
    refine pw_putri (aX0_put 19 rfl) uf_RX0_15 (fun _ _ _ => rfl) (fun t2 => ?_)
    exact pw_vret (aX0_put 20 rfl) hok
  · skip
    refine pw_aloadn (aX0_put 14 rfl) rfl ?_
    refine pw_dup (aX0_put 15 rfl) ?_
    refine pw_getr (v := .int (FI 119 1)) (aX0_put 16 rfl) uf_RX0_15 un_RX0_15 rfl ?_
    refine pw_iconst (v := (1 : Int32)) (aX0_put 17 rfl) rfl ?_
    refine pw_iadd (aX0_put 18 rfl) ?_
    refine pw_putri (aX0_put 19 rfl) uf_RX0_15 (fun _ _ _ => rfl) (fun t3 => ?_)
    exact pw_vret (aX0_put 20 rfl) hok
set_option maxHeartbeats 4000000 in
set_option maxRecDepth 100000 in
theorem bX0_putNumber_3 {sk : xK} {base N d : Nat} {K3 : Int32 → Nat → Nat → (Nat → Nat × Nat) → (Nat → Nat → Int32) → (Nat → Nat → Int64) → (Nat → Nat → Option Nat) → Unit → hS → Prop} (hkb : x_kb sk base) (a1 : Int64) (a2 : Int32) (l4i : Int32)  (n sl : Nat) (SH : Nat → Nat × Nat) (FI : Nat → Nat → Int32) (FL : Nat → Nat → Int64) (FR : Nat → Nat → Option Nat) (hok : pk n SH FR)  (hK3 : ∀ (l4i : Int32) (n sl : Nat) (SH : Nat → Nat × Nat) (FI : Nat → Nat → Int32) (FL : Nat → Nat → Int64) (FR : Nat → Nat → Option Nat), pk n SH FR → pw pj_V sk base N d none 15 3 [(0, .ref (base + 119)), (1, .long (a1)), (3, .int (a2)), (4, .int (l4i))] [] (n, sl, SH, FI, FL, FR) (K3 l4i n sl SH FI FL FR)) : pw pj_V sk base (N + 1) d none 15 3 [(0, .ref (base + 119)), (1, .long (a1)), (3, .int (a2)), (4, .int (l4i))] [] (n, sl, SH, FI, FL, FR) (BX0_putNumber_3 K3 a1 a2 l4i n sl SH FI FL FR) := by
  unfold BX0_putNumber_3
  refine pd_iload (aX0_putNumber 2 rfl) rfl ?_
  refine pw_iloadn (aX0_putNumber 3 rfl) rfl ?_
  refine pw_icge (tgt := 34) (aX0_putNumber 4 rfl) (by decide) (fun b0 => ?_) (fun b0 => ?_)
  · skip
    refine pw_iload (aX0_putNumber 5 rfl) rfl ?_
    refine pw_bipush (v := (8 : Int32)) (aX0_putNumber 6 rfl) rfl ?_
    refine pw_icge (tgt := 34) (aX0_putNumber 7 rfl) (by decide) (fun b1 => ?_) (fun b1 => ?_)
    · skip
      refine pw_aloadn (aX0_putNumber 8 rfl) rfl ?_
      refine pw_lloadn (aX0_putNumber 9 rfl) rfl ?_
      refine pw_bipush (v := (8 : Int32)) (aX0_putNumber 10 rfl) rfl ?_
      refine pw_iload (aX0_putNumber 11 rfl) rfl ?_
      refine pw_imul (aX0_putNumber 12 rfl) ?_
      refine pw_lushr (aX0_putNumber 13 rfl) ?_
      refine pw_l2i (aX0_putNumber 14 rfl) ?_
      refine pw_callV (Bs := [.int ((((a1).toUInt64 >>> ((((8 : Int32)) * (l4i)).toInt64.toUInt64 &&& Int64.toUInt64 63)).toInt64).toInt32)]) (rest := []) (aX0_putNumber 15 rfl) um_RX0_62 ujX0_put wc_RX0_62.2.2.2.2 (by decide) (by decide) rfl rfl (fun d => rX0_put hkb ((((a1).toUInt64 >>> ((((8 : Int32)) * (l4i)).toInt64.toUInt64 &&& Int64.toUInt64 63)).toInt64).toInt32) n sl SH FI FL FR hok) (fun v2 n2 sl2 SH2 FI2 FL2 FR2 hok2 _ => ?_)
      show pw _ _ _ _ _ _ _ 28 _ [] _ _
      refine pw_iinc (v := (l4i) + (1 : Int32)) (L2 := [(4, .int ((l4i) + (1 : Int32))), (0, .ref (base + 119)), (1, .long (a1)), (3, .int (a2))]) (aX0_putNumber 16 rfl) rfl rfl rfl ?_
      refine pw_goto (tgt := 3) (aX0_putNumber 17 rfl) (by decide) ?_
      exact pw_Li (L2 := [(0, .ref (base + 119)), (1, .long (a1)), (3, .int (a2)), (4, .int ((l4i) + (1 : Int32)))]) [3, 0, 1, 2] (hK3 ((l4i) + (1 : Int32)) n2 sl2 SH2 FI2 FL2 FR2 hok2) ⟨rfl, rfl, rfl, rfl, trivial⟩
    · skip
      exact pw_vret (aX0_putNumber 18 rfl) hok
  · skip
    exact pw_vret (aX0_putNumber 18 rfl) hok
theorem gX0_putNumber_3 {sk : xK} {base d : Nat}  (hkb : x_kb sk base) (a1 : Int64) (a2 : Int32) (N : Nat) :  ∀ (l4i : Int32)  (n sl : Nat) (SH : Nat → Nat × Nat) (FI : Nat → Nat → Int32) (FL : Nat → Nat → Int64) (FR : Nat → Nat → Option Nat), pk n SH FR → pw pj_V sk base N d none 15 3 [(0, .ref (base + 119)), (1, .long (a1)), (3, .int (a2)), (4, .int (l4i))] [] (n, sl, SH, FI, FL, FR) (GX0_putNumber_3  a1 a2 (N + 1) l4i n sl SH FI FL FR) := by
  induction N with
  | zero => intros; exact pw_0
  | succ N ih => intro   l4i  n sl SH FI FL FR hok; exact bX0_putNumber_3 hkb a1 a2 l4i  n sl SH FI FL FR hok  (ih  )
theorem rX0_putNumber_3 {sk : xK} {base N d : Nat}  (hkb : x_kb sk base) (a1 : Int64) (a2 : Int32) (l4i : Int32)  (n sl : Nat) (SH : Nat → Nat × Nat) (FI : Nat → Nat → Int32) (FL : Nat → Nat → Int64) (FR : Nat → Nat → Option Nat) (hok : pk n SH FR)   : pw pj_V sk base N d none 15 3 [(0, .ref (base + 119)), (1, .long (a1)), (3, .int (a2)), (4, .int (l4i))] [] (n, sl, SH, FI, FL, FR) (RX0_putNumber_3  a1 a2 l4i n sl SH FI FL FR) := pw_cons (gX0_putNumber_3 hkb a1 a2 N   l4i  n sl SH FI FL FR hok) (fun _ _ h => ⟨_, h⟩)
set_option maxHeartbeats 4000000 in
set_option maxRecDepth 100000 in
theorem rX0_putNumber {sk : xK} {base N d : Nat} (hkb : x_kb sk base) (a1 : Int64) (a2 : Int32) (n sl : Nat) (SH : Nat → Nat × Nat) (FI : Nat → Nat → Int32) (FL : Nat → Nat → Int64) (FR : Nat → Nat → Option Nat) (hok : pk n SH FR)  : pw pj_V sk base N d none 15 0 [(0, .ref (base + 119)), (1, .long (a1)), (3, .int (a2))] [] (n, sl, SH, FI, FL, FR) (RX0_putNumber a1 a2 n sl SH FI FL FR) := by
  unfold RX0_putNumber
  refine pw_iconst (v := (0 : Int32)) (aX0_putNumber 0 rfl) rfl ?_
  refine pw_istore (L2 := [(4, .int ((0 : Int32))), (0, .ref (base + 119)), (1, .long (a1)), (3, .int (a2))]) (aX0_putNumber 1 rfl) rfl ?_
  exact pw_Li (L2 := [(0, .ref (base + 119)), (1, .long (a1)), (3, .int (a2)), (4, .int ((0 : Int32)))]) [3, 0, 1, 2] (rX0_putNumber_3 hkb a1 a2 ((0 : Int32)) n sl SH FI FL FR hok  ) ⟨rfl, rfl, rfl, rfl, trivial⟩
set_option maxHeartbeats 4000000 in
set_option maxRecDepth 100000 in
theorem rX0_putLeb_26 {sk : xK} {base N d : Nat} {K5 : Int64 → Int32 → Nat → Nat → (Nat → Nat × Nat) → (Nat → Nat → Int32) → (Nat → Nat → Int64) → (Nat → Nat → Option Nat) → Unit → hS → Prop} (hkb : x_kb sk base) (a1 : Int64) (l3l : Int64) (l5i : Int32)  (n sl : Nat) (SH : Nat → Nat × Nat) (FI : Nat → Nat → Int32) (FL : Nat → Nat → Int64) (FR : Nat → Nat → Option Nat) (hok : pk n SH FR)  (hK5 : ∀ (l3l : Int64) (l5i : Int32) (n sl : Nat) (SH : Nat → Nat × Nat) (FI : Nat → Nat → Int32) (FL : Nat → Nat → Int64) (FR : Nat → Nat → Option Nat), pk n SH FR → pw pj_V sk base N d none 17 5 [(0, .ref (base + 119)), (1, .long (a1)), (3, .long (l3l)), (5, .int (l5i))] [] (n, sl, SH, FI, FL, FR) (K5 l3l l5i n sl SH FI FL FR)) : pw pj_V sk base N d none 17 26 [(0, .ref (base + 119)), (1, .long (a1)), (3, .long (l3l)), (5, .int (l5i))] [] (n, sl, SH, FI, FL, FR) (RX0_putLeb_26 K5 a1 l3l l5i n sl SH FI FL FR) := by
  unfold RX0_putLeb_26
  refine pw_aloadn (aX0_putLeb 15 rfl) rfl ?_
  refine pw_lloadn (aX0_putLeb 16 rfl) rfl ?_
  refine pw_ldc2 (v := (127 : Int64)) (aX0_putLeb 17 rfl) uk_RX0_161 ?_
  refine pw_land (aX0_putLeb 18 rfl) ?_
  refine pw_l2i (aX0_putLeb 19 rfl) ?_
  refine pw_sipush (v := (128 : Int32)) (aX0_putLeb 20 rfl) rfl ?_
  refine pw_ior (aX0_putLeb 21 rfl) ?_
  refine pw_callV (Bs := [.int ((((l3l) &&& ((127 : Int64))).toInt32) ||| ((128 : Int32)))]) (rest := []) (aX0_putLeb 22 rfl) um_RX0_62 ujX0_put wc_RX0_62.2.2.2.2 (by decide) (by decide) rfl rfl (fun d => rX0_put hkb ((((l3l) &&& ((127 : Int64))).toInt32) ||| ((128 : Int32))) n sl SH FI FL FR hok) (fun v0 n0 sl0 SH0 FI0 FL0 FR0 hok0 _ => ?_)
  show pw _ _ _ _ _ _ _ 40 _ [] _ _
  refine pw_lloadn (aX0_putLeb 23 rfl) rfl ?_
  refine pw_bipush (v := (7 : Int32)) (aX0_putLeb 24 rfl) rfl ?_
  refine pw_lushr (aX0_putLeb 25 rfl) ?_
  refine pw_lstoren (L2 := [(3, .long (((l3l).toUInt64 >>> (((7 : Int32)).toInt64.toUInt64 &&& Int64.toUInt64 63)).toInt64)), (0, .ref (base + 119)), (1, .long (a1)), (5, .int (l5i))]) (aX0_putLeb 26 rfl) rfl ?_
  refine pw_iinc (v := (l5i) + (1 : Int32)) (L2 := [(5, .int ((l5i) + (1 : Int32))), (3, .long (((l3l).toUInt64 >>> (((7 : Int32)).toInt64.toUInt64 &&& Int64.toUInt64 63)).toInt64)), (0, .ref (base + 119)), (1, .long (a1))]) (aX0_putLeb 27 rfl) rfl rfl rfl ?_
  refine pw_goto (tgt := 5) (aX0_putLeb 28 rfl) (by decide) ?_
  exact pw_Li (L2 := [(0, .ref (base + 119)), (1, .long (a1)), (3, .long (((l3l).toUInt64 >>> (((7 : Int32)).toInt64.toUInt64 &&& Int64.toUInt64 63)).toInt64)), (5, .int ((l5i) + (1 : Int32)))]) [3, 2, 0, 1] (hK5 (((l3l).toUInt64 >>> (((7 : Int32)).toInt64.toUInt64 &&& Int64.toUInt64 63)).toInt64) ((l5i) + (1 : Int32)) n0 sl0 SH0 FI0 FL0 FR0 hok0) ⟨rfl, rfl, rfl, rfl, trivial⟩
set_option maxHeartbeats 4000000 in
set_option maxRecDepth 100000 in
theorem bX0_putLeb_5 {sk : xK} {base N d : Nat} {K5 : Int64 → Int32 → Nat → Nat → (Nat → Nat × Nat) → (Nat → Nat → Int32) → (Nat → Nat → Int64) → (Nat → Nat → Option Nat) → Unit → hS → Prop} (hkb : x_kb sk base) (a1 : Int64) (l3l : Int64) (l5i : Int32)  (n sl : Nat) (SH : Nat → Nat × Nat) (FI : Nat → Nat → Int32) (FL : Nat → Nat → Int64) (FR : Nat → Nat → Option Nat) (hok : pk n SH FR)  (hK5 : ∀ (l3l : Int64) (l5i : Int32) (n sl : Nat) (SH : Nat → Nat × Nat) (FI : Nat → Nat → Int32) (FL : Nat → Nat → Int64) (FR : Nat → Nat → Option Nat), pk n SH FR → pw pj_V sk base N d none 17 5 [(0, .ref (base + 119)), (1, .long (a1)), (3, .long (l3l)), (5, .int (l5i))] [] (n, sl, SH, FI, FL, FR) (K5 l3l l5i n sl SH FI FL FR)) : pw pj_V sk base (N + 1) d none 17 5 [(0, .ref (base + 119)), (1, .long (a1)), (3, .long (l3l)), (5, .int (l5i))] [] (n, sl, SH, FI, FL, FR) (BX0_putLeb_5 K5 a1 l3l l5i n sl SH FI FL FR) := by
  unfold BX0_putLeb_5
  refine pd_iload (aX0_putLeb 4 rfl) rfl ?_
  refine pw_bipush (v := (9 : Int32)) (aX0_putLeb 5 rfl) rfl ?_
  refine pw_icge (tgt := 51) (aX0_putLeb 6 rfl) (by decide) (fun b0 => ?_) (fun b0 => ?_)
  · skip
    refine pw_lloadn (aX0_putLeb 7 rfl) rfl ?_
    refine pw_lconst (v := (0 : Int64)) (aX0_putLeb 8 rfl) rfl ?_
    refine pw_lclt (tgt := 26) (aX0_putLeb 9 rfl) (aX0_putLeb 10 rfl) (by decide) (fun b1 => ?_) (fun b1 => ?_)
    · skip
      exact pw_Li (L2 := [(0, .ref (base + 119)), (1, .long (a1)), (3, .long (l3l)), (5, .int (l5i))]) [0, 1, 2, 3] (rX0_putLeb_26 hkb a1 (l3l) (l5i) n sl SH FI FL FR hok  hK5) ⟨rfl, rfl, rfl, rfl, trivial⟩
    · skip
      refine pw_lloadn (aX0_putLeb 11 rfl) rfl ?_
      refine pw_ldc2 (v := (127 : Int64)) (aX0_putLeb 12 rfl) uk_RX0_161 ?_
      refine pw_lcle (tgt := 51) (aX0_putLeb 13 rfl) (aX0_putLeb 14 rfl) (by decide) (fun b2 => ?_) (fun b2 => ?_)
      · skip
        exact pw_Li (L2 := [(0, .ref (base + 119)), (1, .long (a1)), (3, .long (l3l)), (5, .int (l5i))]) [0, 1, 2, 3] (rX0_putLeb_26 hkb a1 (l3l) (l5i) n sl SH FI FL FR hok  hK5) ⟨rfl, rfl, rfl, rfl, trivial⟩
      · skip
        refine pw_aloadn (aX0_putLeb 29 rfl) rfl ?_
        refine pw_lloadn (aX0_putLeb 30 rfl) rfl ?_
        refine pw_l2i (aX0_putLeb 31 rfl) ?_
        refine pw_callV (Bs := [.int ((l3l).toInt32)]) (rest := []) (aX0_putLeb 32 rfl) um_RX0_62 ujX0_put wc_RX0_62.2.2.2.2 (by decide) (by decide) rfl rfl (fun d => rX0_put hkb ((l3l).toInt32) n sl SH FI FL FR hok) (fun v3 n3 sl3 SH3 FI3 FL3 FR3 hok3 _ => ?_)
        show pw _ _ _ _ _ _ _ 57 _ [] _ _
        exact pw_vret (aX0_putLeb 33 rfl) hok3
  · skip
    refine pw_aloadn (aX0_putLeb 29 rfl) rfl ?_
    refine pw_lloadn (aX0_putLeb 30 rfl) rfl ?_
    refine pw_l2i (aX0_putLeb 31 rfl) ?_
    refine pw_callV (Bs := [.int ((l3l).toInt32)]) (rest := []) (aX0_putLeb 32 rfl) um_RX0_62 ujX0_put wc_RX0_62.2.2.2.2 (by decide) (by decide) rfl rfl (fun d => rX0_put hkb ((l3l).toInt32) n sl SH FI FL FR hok) (fun v4 n4 sl4 SH4 FI4 FL4 FR4 hok4 _ => ?_)
    show pw _ _ _ _ _ _ _ 57 _ [] _ _
    exact pw_vret (aX0_putLeb 33 rfl) hok4
theorem gX0_putLeb_5 {sk : xK} {base d : Nat}  (hkb : x_kb sk base) (a1 : Int64) (N : Nat) :  ∀ (l3l : Int64) (l5i : Int32)  (n sl : Nat) (SH : Nat → Nat × Nat) (FI : Nat → Nat → Int32) (FL : Nat → Nat → Int64) (FR : Nat → Nat → Option Nat), pk n SH FR → pw pj_V sk base N d none 17 5 [(0, .ref (base + 119)), (1, .long (a1)), (3, .long (l3l)), (5, .int (l5i))] [] (n, sl, SH, FI, FL, FR) (GX0_putLeb_5  a1 (N + 1) l3l l5i n sl SH FI FL FR) := by
  induction N with
  | zero => intros; exact pw_0
  | succ N ih => intro   l3l l5i  n sl SH FI FL FR hok; exact bX0_putLeb_5 hkb a1 l3l l5i  n sl SH FI FL FR hok  (ih  )
theorem rX0_putLeb_5 {sk : xK} {base N d : Nat}  (hkb : x_kb sk base) (a1 : Int64) (l3l : Int64) (l5i : Int32)  (n sl : Nat) (SH : Nat → Nat × Nat) (FI : Nat → Nat → Int32) (FL : Nat → Nat → Int64) (FR : Nat → Nat → Option Nat) (hok : pk n SH FR)   : pw pj_V sk base N d none 17 5 [(0, .ref (base + 119)), (1, .long (a1)), (3, .long (l3l)), (5, .int (l5i))] [] (n, sl, SH, FI, FL, FR) (RX0_putLeb_5  a1 l3l l5i n sl SH FI FL FR) := pw_cons (gX0_putLeb_5 hkb a1 N   l3l l5i  n sl SH FI FL FR hok) (fun _ _ h => ⟨_, h⟩)
set_option maxHeartbeats 4000000 in
set_option maxRecDepth 100000 in
theorem rX0_putLeb {sk : xK} {base N d : Nat} (hkb : x_kb sk base) (a1 : Int64) (n sl : Nat) (SH : Nat → Nat × Nat) (FI : Nat → Nat → Int32) (FL : Nat → Nat → Int64) (FR : Nat → Nat → Option Nat) (hok : pk n SH FR)  : pw pj_V sk base N d none 17 0 [(0, .ref (base + 119)), (1, .long (a1))] [] (n, sl, SH, FI, FL, FR) (RX0_putLeb a1 n sl SH FI FL FR) := by
  unfold RX0_putLeb
  refine pw_lloadn (aX0_putLeb 0 rfl) rfl ?_
  refine pw_lstoren (L2 := [(3, .long (a1)), (0, .ref (base + 119)), (1, .long (a1))]) (aX0_putLeb 1 rfl) rfl ?_
  refine pw_iconst (v := (0 : Int32)) (aX0_putLeb 2 rfl) rfl ?_
  refine pw_istore (L2 := [(5, .int ((0 : Int32))), (3, .long (a1)), (0, .ref (base + 119)), (1, .long (a1))]) (aX0_putLeb 3 rfl) rfl ?_
  exact pw_Li (L2 := [(0, .ref (base + 119)), (1, .long (a1)), (3, .long (a1)), (5, .int ((0 : Int32)))]) [3, 2, 0, 1] (rX0_putLeb_5 hkb a1 (a1) ((0 : Int32)) n sl SH FI FL FR hok  ) ⟨rfl, rfl, rfl, rfl, trivial⟩
set_option maxHeartbeats 4000000 in
set_option maxRecDepth 100000 in
theorem rX0_putSignedLeb_28 {sk : xK} {base N d : Nat} {K5 : Int64 → Int32 → Nat → Nat → (Nat → Nat × Nat) → (Nat → Nat → Int32) → (Nat → Nat → Int64) → (Nat → Nat → Option Nat) → Unit → hS → Prop} (hkb : x_kb sk base) (a1 : Int64) (l3l : Int64) (l5i : Int32)  (n sl : Nat) (SH : Nat → Nat × Nat) (FI : Nat → Nat → Int32) (FL : Nat → Nat → Int64) (FR : Nat → Nat → Option Nat) (hok : pk n SH FR)  (hK5 : ∀ (l3l : Int64) (l5i : Int32) (n sl : Nat) (SH : Nat → Nat × Nat) (FI : Nat → Nat → Int32) (FL : Nat → Nat → Int64) (FR : Nat → Nat → Option Nat), pk n SH FR → pw pj_V sk base N d none 18 5 [(0, .ref (base + 119)), (1, .long (a1)), (3, .long (l3l)), (5, .int (l5i))] [] (n, sl, SH, FI, FL, FR) (K5 l3l l5i n sl SH FI FL FR)) : pw pj_V sk base N d none 18 28 [(0, .ref (base + 119)), (1, .long (a1)), (3, .long (l3l)), (5, .int (l5i))] [] (n, sl, SH, FI, FL, FR) (RX0_putSignedLeb_28 K5 a1 l3l l5i n sl SH FI FL FR) := by
  unfold RX0_putSignedLeb_28
  refine pw_aloadn (aX0_putSignedLeb 15 rfl) rfl ?_
  refine pw_lloadn (aX0_putSignedLeb 16 rfl) rfl ?_
  refine pw_ldc2 (v := (127 : Int64)) (aX0_putSignedLeb 17 rfl) uk_RX0_161 ?_
  refine pw_land (aX0_putSignedLeb 18 rfl) ?_
  refine pw_l2i (aX0_putSignedLeb 19 rfl) ?_
  refine pw_sipush (v := (128 : Int32)) (aX0_putSignedLeb 20 rfl) rfl ?_
  refine pw_ior (aX0_putSignedLeb 21 rfl) ?_
  refine pw_callV (Bs := [.int ((((l3l) &&& ((127 : Int64))).toInt32) ||| ((128 : Int32)))]) (rest := []) (aX0_putSignedLeb 22 rfl) um_RX0_62 ujX0_put wc_RX0_62.2.2.2.2 (by decide) (by decide) rfl rfl (fun d => rX0_put hkb ((((l3l) &&& ((127 : Int64))).toInt32) ||| ((128 : Int32))) n sl SH FI FL FR hok) (fun v0 n0 sl0 SH0 FI0 FL0 FR0 hok0 _ => ?_)
  show pw _ _ _ _ _ _ _ 42 _ [] _ _
  refine pw_lloadn (aX0_putSignedLeb 23 rfl) rfl ?_
  refine pw_bipush (v := (7 : Int32)) (aX0_putSignedLeb 24 rfl) rfl ?_
  refine pw_lshr (aX0_putSignedLeb 25 rfl) ?_
  refine pw_lstoren (L2 := [(3, .long ((l3l) >>> (((7 : Int32)).toInt64 &&& 63))), (0, .ref (base + 119)), (1, .long (a1)), (5, .int (l5i))]) (aX0_putSignedLeb 26 rfl) rfl ?_
  refine pw_iinc (v := (l5i) + (1 : Int32)) (L2 := [(5, .int ((l5i) + (1 : Int32))), (3, .long ((l3l) >>> (((7 : Int32)).toInt64 &&& 63))), (0, .ref (base + 119)), (1, .long (a1))]) (aX0_putSignedLeb 27 rfl) rfl rfl rfl ?_
  refine pw_goto (tgt := 5) (aX0_putSignedLeb 28 rfl) (by decide) ?_
  exact pw_Li (L2 := [(0, .ref (base + 119)), (1, .long (a1)), (3, .long ((l3l) >>> (((7 : Int32)).toInt64 &&& 63))), (5, .int ((l5i) + (1 : Int32)))]) [3, 2, 0, 1] (hK5 ((l3l) >>> (((7 : Int32)).toInt64 &&& 63)) ((l5i) + (1 : Int32)) n0 sl0 SH0 FI0 FL0 FR0 hok0) ⟨rfl, rfl, rfl, rfl, trivial⟩
set_option maxHeartbeats 4000000 in
set_option maxRecDepth 100000 in
theorem bX0_putSignedLeb_5 {sk : xK} {base N d : Nat} {K5 : Int64 → Int32 → Nat → Nat → (Nat → Nat × Nat) → (Nat → Nat → Int32) → (Nat → Nat → Int64) → (Nat → Nat → Option Nat) → Unit → hS → Prop} (hkb : x_kb sk base) (a1 : Int64) (l3l : Int64) (l5i : Int32)  (n sl : Nat) (SH : Nat → Nat × Nat) (FI : Nat → Nat → Int32) (FL : Nat → Nat → Int64) (FR : Nat → Nat → Option Nat) (hok : pk n SH FR)  (hK5 : ∀ (l3l : Int64) (l5i : Int32) (n sl : Nat) (SH : Nat → Nat × Nat) (FI : Nat → Nat → Int32) (FL : Nat → Nat → Int64) (FR : Nat → Nat → Option Nat), pk n SH FR → pw pj_V sk base N d none 18 5 [(0, .ref (base + 119)), (1, .long (a1)), (3, .long (l3l)), (5, .int (l5i))] [] (n, sl, SH, FI, FL, FR) (K5 l3l l5i n sl SH FI FL FR)) : pw pj_V sk base (N + 1) d none 18 5 [(0, .ref (base + 119)), (1, .long (a1)), (3, .long (l3l)), (5, .int (l5i))] [] (n, sl, SH, FI, FL, FR) (BX0_putSignedLeb_5 K5 a1 l3l l5i n sl SH FI FL FR) := by
  unfold BX0_putSignedLeb_5
  refine pd_iload (aX0_putSignedLeb 4 rfl) rfl ?_
  refine pw_bipush (v := (9 : Int32)) (aX0_putSignedLeb 5 rfl) rfl ?_
  refine pw_icge (tgt := 53) (aX0_putSignedLeb 6 rfl) (by decide) (fun b0 => ?_) (fun b0 => ?_)
  · skip
    refine pw_lloadn (aX0_putSignedLeb 7 rfl) rfl ?_
    refine pw_ldc2 (v := (-64 : Int64)) (aX0_putSignedLeb 8 rfl) uk_RX0_163 ?_
    refine pw_lclt (tgt := 28) (aX0_putSignedLeb 9 rfl) (aX0_putSignedLeb 10 rfl) (by decide) (fun b1 => ?_) (fun b1 => ?_)
    · skip
      exact pw_Li (L2 := [(0, .ref (base + 119)), (1, .long (a1)), (3, .long (l3l)), (5, .int (l5i))]) [0, 1, 2, 3] (rX0_putSignedLeb_28 hkb a1 (l3l) (l5i) n sl SH FI FL FR hok  hK5) ⟨rfl, rfl, rfl, rfl, trivial⟩
    · skip
      refine pw_lloadn (aX0_putSignedLeb 11 rfl) rfl ?_
      refine pw_ldc2 (v := (63 : Int64)) (aX0_putSignedLeb 12 rfl) uk_RX0_165 ?_
      refine pw_lcle (tgt := 53) (aX0_putSignedLeb 13 rfl) (aX0_putSignedLeb 14 rfl) (by decide) (fun b2 => ?_) (fun b2 => ?_)
      · skip
        exact pw_Li (L2 := [(0, .ref (base + 119)), (1, .long (a1)), (3, .long (l3l)), (5, .int (l5i))]) [0, 1, 2, 3] (rX0_putSignedLeb_28 hkb a1 (l3l) (l5i) n sl SH FI FL FR hok  hK5) ⟨rfl, rfl, rfl, rfl, trivial⟩
      · skip
        refine pw_aloadn (aX0_putSignedLeb 29 rfl) rfl ?_
        refine pw_lloadn (aX0_putSignedLeb 30 rfl) rfl ?_
        refine pw_ldc2 (v := (127 : Int64)) (aX0_putSignedLeb 31 rfl) uk_RX0_161 ?_
        refine pw_land (aX0_putSignedLeb 32 rfl) ?_
        refine pw_l2i (aX0_putSignedLeb 33 rfl) ?_
        refine pw_callV (Bs := [.int (((l3l) &&& ((127 : Int64))).toInt32)]) (rest := []) (aX0_putSignedLeb 34 rfl) um_RX0_62 ujX0_put wc_RX0_62.2.2.2.2 (by decide) (by decide) rfl rfl (fun d => rX0_put hkb (((l3l) &&& ((127 : Int64))).toInt32) n sl SH FI FL FR hok) (fun v3 n3 sl3 SH3 FI3 FL3 FR3 hok3 _ => ?_)
        show pw _ _ _ _ _ _ _ 63 _ [] _ _
        exact pw_vret (aX0_putSignedLeb 35 rfl) hok3
  · skip
    refine pw_aloadn (aX0_putSignedLeb 29 rfl) rfl ?_
    refine pw_lloadn (aX0_putSignedLeb 30 rfl) rfl ?_
    refine pw_ldc2 (v := (127 : Int64)) (aX0_putSignedLeb 31 rfl) uk_RX0_161 ?_
    refine pw_land (aX0_putSignedLeb 32 rfl) ?_
    refine pw_l2i (aX0_putSignedLeb 33 rfl) ?_
    refine pw_callV (Bs := [.int (((l3l) &&& ((127 : Int64))).toInt32)]) (rest := []) (aX0_putSignedLeb 34 rfl) um_RX0_62 ujX0_put wc_RX0_62.2.2.2.2 (by decide) (by decide) rfl rfl (fun d => rX0_put hkb (((l3l) &&& ((127 : Int64))).toInt32) n sl SH FI FL FR hok) (fun v4 n4 sl4 SH4 FI4 FL4 FR4 hok4 _ => ?_)
    show pw _ _ _ _ _ _ _ 63 _ [] _ _
    exact pw_vret (aX0_putSignedLeb 35 rfl) hok4
theorem gX0_putSignedLeb_5 {sk : xK} {base d : Nat}  (hkb : x_kb sk base) (a1 : Int64) (N : Nat) :  ∀ (l3l : Int64) (l5i : Int32)  (n sl : Nat) (SH : Nat → Nat × Nat) (FI : Nat → Nat → Int32) (FL : Nat → Nat → Int64) (FR : Nat → Nat → Option Nat), pk n SH FR → pw pj_V sk base N d none 18 5 [(0, .ref (base + 119)), (1, .long (a1)), (3, .long (l3l)), (5, .int (l5i))] [] (n, sl, SH, FI, FL, FR) (GX0_putSignedLeb_5  a1 (N + 1) l3l l5i n sl SH FI FL FR) := by
  induction N with
  | zero => intros; exact pw_0
  | succ N ih => intro   l3l l5i  n sl SH FI FL FR hok; exact bX0_putSignedLeb_5 hkb a1 l3l l5i  n sl SH FI FL FR hok  (ih  )
theorem rX0_putSignedLeb_5 {sk : xK} {base N d : Nat}  (hkb : x_kb sk base) (a1 : Int64) (l3l : Int64) (l5i : Int32)  (n sl : Nat) (SH : Nat → Nat × Nat) (FI : Nat → Nat → Int32) (FL : Nat → Nat → Int64) (FR : Nat → Nat → Option Nat) (hok : pk n SH FR)   : pw pj_V sk base N d none 18 5 [(0, .ref (base + 119)), (1, .long (a1)), (3, .long (l3l)), (5, .int (l5i))] [] (n, sl, SH, FI, FL, FR) (RX0_putSignedLeb_5  a1 l3l l5i n sl SH FI FL FR) := pw_cons (gX0_putSignedLeb_5 hkb a1 N   l3l l5i  n sl SH FI FL FR hok) (fun _ _ h => ⟨_, h⟩)
set_option maxHeartbeats 4000000 in
set_option maxRecDepth 100000 in
theorem rX0_putSignedLeb {sk : xK} {base N d : Nat} (hkb : x_kb sk base) (a1 : Int64) (n sl : Nat) (SH : Nat → Nat × Nat) (FI : Nat → Nat → Int32) (FL : Nat → Nat → Int64) (FR : Nat → Nat → Option Nat) (hok : pk n SH FR)  : pw pj_V sk base N d none 18 0 [(0, .ref (base + 119)), (1, .long (a1))] [] (n, sl, SH, FI, FL, FR) (RX0_putSignedLeb a1 n sl SH FI FL FR) := by
  unfold RX0_putSignedLeb
  refine pw_lloadn (aX0_putSignedLeb 0 rfl) rfl ?_
  refine pw_lstoren (L2 := [(3, .long (a1)), (0, .ref (base + 119)), (1, .long (a1))]) (aX0_putSignedLeb 1 rfl) rfl ?_
  refine pw_iconst (v := (0 : Int32)) (aX0_putSignedLeb 2 rfl) rfl ?_
  refine pw_istore (L2 := [(5, .int ((0 : Int32))), (3, .long (a1)), (0, .ref (base + 119)), (1, .long (a1))]) (aX0_putSignedLeb 3 rfl) rfl ?_
  exact pw_Li (L2 := [(0, .ref (base + 119)), (1, .long (a1)), (3, .long (a1)), (5, .int ((0 : Int32)))]) [3, 2, 0, 1] (rX0_putSignedLeb_5 hkb a1 (a1) ((0 : Int32)) n sl SH FI FL FR hok  ) ⟨rfl, rfl, rfl, rfl, trivial⟩
set_option maxHeartbeats 4000000 in
set_option maxRecDepth 100000 in
theorem rX0_patch {sk : xK} {base N d : Nat} (hkb : x_kb sk base) (a1 : Int32) (a2 : Int32) (n sl : Nat) (SH : Nat → Nat × Nat) (FI : Nat → Nat → Int32) (FL : Nat → Nat → Int64) (FR : Nat → Nat → Option Nat) (hok : pk n SH FR)  : pw pj_V sk base N d none 16 0 [(0, .ref (base + 119)), (1, .int (a1)), (2, .int (a2))] [] (n, sl, SH, FI, FL, FR) (RX0_patch a1 a2 n sl SH FI FL FR) := by
  unfold RX0_patch
  refine pw_iloadn (aX0_patch 0 rfl) rfl ?_
  refine pw_iflt (tgt := 42) (aX0_patch 1 rfl) (by decide) (fun b0 => ?_) (fun b0 => ?_)
  · skip
    exact pw_vret (aX0_patch 27 rfl) hok
  · skip
    refine pw_iloadn (aX0_patch 2 rfl) rfl ?_
    refine pw_iconst (v := (1 : Int32)) (aX0_patch 3 rfl) rfl ?_
    refine pw_iadd (aX0_patch 4 rfl) ?_
    refine pw_aloadn (aX0_patch 5 rfl) rfl ?_
    refine pw_getr (v := .ref (base + 120)) (aX0_patch 6 rfl) uf_RX0_9 un_RX0_9 (congrArg (fun r => va_rf (h_rf base r)) (q119_0 (hok).2.1)) ?_
    refine pw_alenr hkb (c := 120) (aX0_patch 7 rfl) ?_
    refine pw_icge (tgt := 42) (aX0_patch 8 rfl) (by decide) (fun b1 => ?_) (fun b1 => ?_)
    · skip
      refine pw_aloadn (aX0_patch 9 rfl) rfl ?_
      refine pw_getr (v := .ref (base + 120)) (aX0_patch 10 rfl) uf_RX0_9 un_RX0_9 (congrArg (fun r => va_rf (h_rf base r)) (q119_0 (hok).2.1)) ?_
      refine pw_iloadn (aX0_patch 11 rfl) rfl ?_
      refine pw_iloadn (aX0_patch 12 rfl) rfl ?_
      refine pw_sipush (v := (255 : Int32)) (aX0_patch 13 rfl) rfl ?_
      refine pw_iand (aX0_patch 14 rfl) ?_
      refine pw_iastr (c := 120) (ix := (a1).toInt.toNat) (aX0_patch 15 rfl) rfl (fun _ => ?_)
      refine pw_aloadn (aX0_patch 16 rfl) rfl ?_
      refine pw_getr (v := .ref (base + 120)) (aX0_patch 17 rfl) uf_RX0_9 un_RX0_9 (congrArg (fun r => va_rf (h_rf base r)) (q119_0 (hok).2.1)) ?_
      refine pw_iloadn (aX0_patch 18 rfl) rfl ?_
      refine pw_iconst (v := (1 : Int32)) (aX0_patch 19 rfl) rfl ?_
      refine pw_iadd (aX0_patch 20 rfl) ?_
      refine pw_iloadn (aX0_patch 21 rfl) rfl ?_
      refine pw_bipush (v := (8 : Int32)) (aX0_patch 22 rfl) rfl ?_
      refine pw_iushr (aX0_patch 23 rfl) ?_
      refine pw_sipush (v := (255 : Int32)) (aX0_patch 24 rfl) rfl ?_
      refine pw_iand (aX0_patch 25 rfl) ?_
      refine pw_iastr (c := 120) (ix := ((a1) + ((1 : Int32))).toInt.toNat) (aX0_patch 26 rfl) rfl (fun _ => ?_)
      exact pw_vret (aX0_patch 27 rfl) hok
    · skip
      exact pw_vret (aX0_patch 27 rfl) hok
set_option maxHeartbeats 4000000 in
set_option maxRecDepth 100000 in
theorem rX0_putConstant {sk : xK} {base N d : Nat} (hkb : x_kb sk base) (a1 : Int64) (n sl : Nat) (SH : Nat → Nat × Nat) (FI : Nat → Nat → Int32) (FL : Nat → Nat → Int64) (FR : Nat → Nat → Option Nat) (hok : pk n SH FR)  : pw pj_V sk base N d none 13 0 [(0, .ref (base + 119)), (1, .long (a1))] [] (n, sl, SH, FI, FL, FR) (RX0_putConstant a1 n sl SH FI FL FR) := by
  unfold RX0_putConstant
  refine pw_lloadn (aX0_putConstant 0 rfl) rfl ?_
  refine pw_ldc2 (v := (31 : Int64)) (aX0_putConstant 1 rfl) uk_RX0_153 ?_
  refine pw_lcgt (tgt := 20) (aX0_putConstant 2 rfl) (aX0_putConstant 3 rfl) (by decide) (fun b0 => ?_) (fun b0 => ?_)
  · skip
    refine pw_lloadn (aX0_putConstant 11 rfl) rfl ?_
    refine pw_ldc2 (v := (255 : Int64)) (aX0_putConstant 12 rfl) uk_RX0_155 ?_
    refine pw_lcgt (tgt := 43) (aX0_putConstant 13 rfl) (aX0_putConstant 14 rfl) (by decide) (fun b1 => ?_) (fun b1 => ?_)
    · skip
      refine pw_lloadn (aX0_putConstant 23 rfl) rfl ?_
      refine pw_ldc2 (v := (65535 : Int64)) (aX0_putConstant 24 rfl) uk_RX0_157 ?_
      refine pw_lcgt (tgt := 66) (aX0_putConstant 25 rfl) (aX0_putConstant 26 rfl) (by decide) (fun b2 => ?_) (fun b2 => ?_)
      · skip
        refine pw_lloadn (aX0_putConstant 35 rfl) rfl ?_
        refine pw_ldc2 (v := (4294967295 : Int64)) (aX0_putConstant 36 rfl) uk_RX0_159 ?_
        refine pw_lcgt (tgt := 89) (aX0_putConstant 37 rfl) (aX0_putConstant 38 rfl) (by decide) (fun b3 => ?_) (fun b3 => ?_)
        · skip
          refine pw_aloadn (aX0_putConstant 47 rfl) rfl ?_
          refine pw_bipush (v := (14 : Int32)) (aX0_putConstant 48 rfl) rfl ?_
          refine pw_callV (Bs := [.int ((14 : Int32))]) (rest := []) (aX0_putConstant 49 rfl) um_RX0_62 ujX0_put wc_RX0_62.2.2.2.2 (by decide) (by decide) rfl rfl (fun d => rX0_put hkb ((14 : Int32)) n sl SH FI FL FR hok) (fun v4 n4 sl4 SH4 FI4 FL4 FR4 hok4 _ => ?_)
          show pw _ _ _ _ _ _ _ 95 _ [] _ _
          refine pw_aloadn (aX0_putConstant 50 rfl) rfl ?_
          refine pw_lloadn (aX0_putConstant 51 rfl) rfl ?_
          refine pw_bipush (v := (8 : Int32)) (aX0_putConstant 52 rfl) rfl ?_
          refine pw_callV (Bs := [.long (a1), .int ((8 : Int32))]) (rest := []) (aX0_putConstant 53 rfl) um_RX0_36 ujX0_putNumber wc_RX0_36.2.2.2.2 (by decide) (by decide) rfl rfl (fun d => rX0_putNumber hkb (a1) ((8 : Int32)) n4 sl4 SH4 FI4 FL4 FR4 hok4) (fun v5 n5 sl5 SH5 FI5 FL5 FR5 hok5 _ => ?_)
          show pw _ _ _ _ _ _ _ 102 _ [] _ _
          exact pw_vret (aX0_putConstant 54 rfl) hok5
        · skip
          refine pw_aloadn (aX0_putConstant 39 rfl) rfl ?_
          refine pw_bipush (v := (12 : Int32)) (aX0_putConstant 40 rfl) rfl ?_
          refine pw_callV (Bs := [.int ((12 : Int32))]) (rest := []) (aX0_putConstant 41 rfl) um_RX0_62 ujX0_put wc_RX0_62.2.2.2.2 (by decide) (by decide) rfl rfl (fun d => rX0_put hkb ((12 : Int32)) n sl SH FI FL FR hok) (fun v6 n6 sl6 SH6 FI6 FL6 FR6 hok6 _ => ?_)
          show pw _ _ _ _ _ _ _ 80 _ [] _ _
          refine pw_aloadn (aX0_putConstant 42 rfl) rfl ?_
          refine pw_lloadn (aX0_putConstant 43 rfl) rfl ?_
          refine pw_iconst (v := (4 : Int32)) (aX0_putConstant 44 rfl) rfl ?_
          refine pw_callV (Bs := [.long (a1), .int ((4 : Int32))]) (rest := []) (aX0_putConstant 45 rfl) um_RX0_36 ujX0_putNumber wc_RX0_36.2.2.2.2 (by decide) (by decide) rfl rfl (fun d => rX0_putNumber hkb (a1) ((4 : Int32)) n6 sl6 SH6 FI6 FL6 FR6 hok6) (fun v7 n7 sl7 SH7 FI7 FL7 FR7 hok7 _ => ?_)
          show pw _ _ _ _ _ _ _ 86 _ [] _ _
          refine pw_goto (tgt := 102) (aX0_putConstant 46 rfl) (by decide) ?_
          exact pw_vret (aX0_putConstant 54 rfl) hok7
      · skip
        refine pw_aloadn (aX0_putConstant 27 rfl) rfl ?_
        refine pw_bipush (v := (10 : Int32)) (aX0_putConstant 28 rfl) rfl ?_
        refine pw_callV (Bs := [.int ((10 : Int32))]) (rest := []) (aX0_putConstant 29 rfl) um_RX0_62 ujX0_put wc_RX0_62.2.2.2.2 (by decide) (by decide) rfl rfl (fun d => rX0_put hkb ((10 : Int32)) n sl SH FI FL FR hok) (fun v8 n8 sl8 SH8 FI8 FL8 FR8 hok8 _ => ?_)
        show pw _ _ _ _ _ _ _ 57 _ [] _ _
        refine pw_aloadn (aX0_putConstant 30 rfl) rfl ?_
        refine pw_lloadn (aX0_putConstant 31 rfl) rfl ?_
        refine pw_iconst (v := (2 : Int32)) (aX0_putConstant 32 rfl) rfl ?_
        refine pw_callV (Bs := [.long (a1), .int ((2 : Int32))]) (rest := []) (aX0_putConstant 33 rfl) um_RX0_36 ujX0_putNumber wc_RX0_36.2.2.2.2 (by decide) (by decide) rfl rfl (fun d => rX0_putNumber hkb (a1) ((2 : Int32)) n8 sl8 SH8 FI8 FL8 FR8 hok8) (fun v9 n9 sl9 SH9 FI9 FL9 FR9 hok9 _ => ?_)
        show pw _ _ _ _ _ _ _ 63 _ [] _ _
        refine pw_goto (tgt := 102) (aX0_putConstant 34 rfl) (by decide) ?_
        exact pw_vret (aX0_putConstant 54 rfl) hok9
    · skip
      refine pw_aloadn (aX0_putConstant 15 rfl) rfl ?_
      refine pw_bipush (v := (8 : Int32)) (aX0_putConstant 16 rfl) rfl ?_
      refine pw_callV (Bs := [.int ((8 : Int32))]) (rest := []) (aX0_putConstant 17 rfl) um_RX0_62 ujX0_put wc_RX0_62.2.2.2.2 (by decide) (by decide) rfl rfl (fun d => rX0_put hkb ((8 : Int32)) n sl SH FI FL FR hok) (fun v10 n10 sl10 SH10 FI10 FL10 FR10 hok10 _ => ?_)
      show pw _ _ _ _ _ _ _ 34 _ [] _ _
      refine pw_aloadn (aX0_putConstant 18 rfl) rfl ?_
      refine pw_lloadn (aX0_putConstant 19 rfl) rfl ?_
      refine pw_iconst (v := (1 : Int32)) (aX0_putConstant 20 rfl) rfl ?_
      refine pw_callV (Bs := [.long (a1), .int ((1 : Int32))]) (rest := []) (aX0_putConstant 21 rfl) um_RX0_36 ujX0_putNumber wc_RX0_36.2.2.2.2 (by decide) (by decide) rfl rfl (fun d => rX0_putNumber hkb (a1) ((1 : Int32)) n10 sl10 SH10 FI10 FL10 FR10 hok10) (fun v11 n11 sl11 SH11 FI11 FL11 FR11 hok11 _ => ?_)
      show pw _ _ _ _ _ _ _ 40 _ [] _ _
      refine pw_goto (tgt := 102) (aX0_putConstant 22 rfl) (by decide) ?_
      exact pw_vret (aX0_putConstant 54 rfl) hok11
  · skip
    refine pw_aloadn (aX0_putConstant 4 rfl) rfl ?_
    refine pw_bipush (v := (48 : Int32)) (aX0_putConstant 5 rfl) rfl ?_
    refine pw_lloadn (aX0_putConstant 6 rfl) rfl ?_
    refine pw_l2i (aX0_putConstant 7 rfl) ?_
    refine pw_iadd (aX0_putConstant 8 rfl) ?_
    refine pw_callV (Bs := [.int (((48 : Int32)) + ((a1).toInt32))]) (rest := []) (aX0_putConstant 9 rfl) um_RX0_62 ujX0_put wc_RX0_62.2.2.2.2 (by decide) (by decide) rfl rfl (fun d => rX0_put hkb (((48 : Int32)) + ((a1).toInt32)) n sl SH FI FL FR hok) (fun v12 n12 sl12 SH12 FI12 FL12 FR12 hok12 _ => ?_)
    show pw _ _ _ _ _ _ _ 17 _ [] _ _
    refine pw_goto (tgt := 102) (aX0_putConstant 10 rfl) (by decide) ?_
    exact pw_vret (aX0_putConstant 54 rfl) hok12
set_option maxHeartbeats 4000000 in
set_option maxRecDepth 100000 in
theorem rX0_putBased {sk : xK} {base N d : Nat} (hkb : x_kb sk base) (a1 : Option Nat) (a2 : Int64) (n sl : Nat) (SH : Nat → Nat × Nat) (FI : Nat → Nat → Int32) (FL : Nat → Nat → Int64) (FR : Nat → Nat → Option Nat) (hok : pk n SH FR)  : pw pj_V sk base N d none 12 0 [(0, .ref (base + 119)), (1, va_rf (h_rf base (a1))), (2, .long (a2))] [] (n, sl, SH, FI, FL, FR) (RX0_putBased a1 a2 n sl SH FI FL FR) := by
  unfold RX0_putBased
  refine pw_aloadn (aX0_putBased 0 rfl) rfl ?_
  refine pw_aloadn (aX0_putBased 1 rfl) rfl ?_
  refine pw_get (o := a1) (v := fun c1 => .int (FI c1 0)) (aX0_putBased 2 rfl) uf_RX0_96 un_RX0_96 (fun _ => rfl) (fun c1 hc1 _ tc1 => ?_)
  refine pw_bipush (v := (37 : Int32)) (aX0_putBased 3 rfl) rfl ?_
  refine pw_icne (tgt := 21) (aX0_putBased 4 rfl) (by decide) (fun b1 => ?_) (fun b1 => ?_)
  · skip
    refine pw_bipush (v := (112 : Int32)) (aX0_putBased 5 rfl) rfl ?_
    refine pw_aloadn (aX0_putBased 6 rfl) rfl ?_
    refine pw_get (o := a1) (v := fun c3 => .long (FL c3 1)) (aX0_putBased 7 rfl) uf_RX0_99 un_RX0_99 (fun _ => rfl) (fun c3 hc3 _ tc3 => ?_)
    refine pw_l2i (aX0_putBased 8 rfl) ?_
    refine pw_iadd (aX0_putBased 9 rfl) ?_
    refine pw_goto (tgt := 24) (aX0_putBased 10 rfl) (by decide) ?_
    refine pw_callV (Bs := [.int (((112 : Int32)) + ((FL c3 1).toInt32))]) (rest := []) (aX0_putBased 12 rfl) um_RX0_62 ujX0_put wc_RX0_62.2.2.2.2 (by decide) (by decide) rfl rfl (fun d => rX0_put hkb (((112 : Int32)) + ((FL c3 1).toInt32)) n sl SH FI FL FR hok) (fun v3 n3 sl3 SH3 FI3 FL3 FR3 hok3 _ => ?_)
    show pw _ _ _ _ _ _ _ 27 _ [] _ _
    refine pw_aloadn (aX0_putBased 13 rfl) rfl ?_
    refine pw_lloadn (aX0_putBased 14 rfl) rfl ?_
    refine pw_callV (Bs := [.long (a2)]) (rest := []) (aX0_putBased 15 rfl) um_RX0_150 ujX0_putSignedLeb wc_RX0_150.2.2.2.2 (by decide) (by decide) rfl rfl (fun d => rX0_putSignedLeb hkb (a2) n3 sl3 SH3 FI3 FL3 FR3 hok3) (fun v4 n4 sl4 SH4 FI4 FL4 FR4 hok4 _ => ?_)
    show pw _ _ _ _ _ _ _ 32 _ [] _ _
    exact pw_vret (aX0_putBased 16 rfl) hok4
  · skip
    refine pw_sipush (v := (145 : Int32)) (aX0_putBased 11 rfl) rfl ?_
    refine pw_callV (Bs := [.int ((145 : Int32))]) (rest := []) (aX0_putBased 12 rfl) um_RX0_62 ujX0_put wc_RX0_62.2.2.2.2 (by decide) (by decide) rfl rfl (fun d => rX0_put hkb ((145 : Int32)) n sl SH FI FL FR hok) (fun v5 n5 sl5 SH5 FI5 FL5 FR5 hok5 _ => ?_)
    show pw _ _ _ _ _ _ _ 27 _ [] _ _
    refine pw_aloadn (aX0_putBased 13 rfl) rfl ?_
    refine pw_lloadn (aX0_putBased 14 rfl) rfl ?_
    refine pw_callV (Bs := [.long (a2)]) (rest := []) (aX0_putBased 15 rfl) um_RX0_150 ujX0_putSignedLeb wc_RX0_150.2.2.2.2 (by decide) (by decide) rfl rfl (fun d => rX0_putSignedLeb hkb (a2) n5 sl5 SH5 FI5 FL5 FR5 hok5) (fun v6 n6 sl6 SH6 FI6 FL6 FR6 hok6 _ => ?_)
    show pw _ _ _ _ _ _ _ 32 _ [] _ _
    exact pw_vret (aX0_putBased 16 rfl) hok6
set_option maxHeartbeats 4000000 in
set_option maxRecDepth 100000 in
theorem rX0_putUnary {sk : xK} {base N d : Nat} (hkb : x_kb sk base) (a1 : Option Nat) (n sl : Nat) (SH : Nat → Nat × Nat) (FI : Nat → Nat → Int32) (FL : Nat → Nat → Int64) (FR : Nat → Nat → Option Nat) (hok : pk n SH FR)  : pw pj_V sk base N d none 7 0 [(0, .ref (base + 119)), (1, va_rf (h_rf base (a1)))] [] (n, sl, SH, FI, FL, FR) (RX0_putUnary a1 n sl SH FI FL FR) := by
  unfold RX0_putUnary
  refine pw_aloadn (aX0_putUnary 0 rfl) rfl ?_
  refine pw_get (o := a1) (v := fun c1 => .int (FI c1 0)) (aX0_putUnary 1 rfl) uf_RX0_96 un_RX0_96 (fun _ => rfl) (fun c1 hc1 _ tc1 => ?_)
  refine pw_lsw aX0_putUnary_4 (fun tg ht => ?_)
  refine pw_case ((FI c1 0).toInt = 6) (fun b2 => ?_) (fun b2 => ?_)
  · have et : tg = 76 := by
      have e9 : Jvm.Op.lookupswitch.offset [(6, 72), (14, 62), (45, 44), (126, 53)] (111) (6) = 72 := (by decide); rw [b2, e9] at ht; omega
    subst et
    refine pw_aloadn (aX0_putUnary 14 rfl) rfl ?_
    refine pw_get (o := a1) (v := fun c3 => .long (FL c3 1)) (aX0_putUnary 15 rfl) uf_RX0_99 un_RX0_99 (fun _ => rfl) (fun c3 hc3 _ tc3 => ?_)
    refine pw_ldc2 (v := (8 : Int64)) (aX0_putUnary 16 rfl) uk_RX0_120 ?_
    refine pw_lcne (tgt := 96) (aX0_putUnary 17 rfl) (aX0_putUnary 18 rfl) (by decide) (fun b3 => ?_) (fun b3 => ?_)
    · skip
      refine pw_aloadn (aX0_putUnary 19 rfl) rfl ?_
      refine pw_bipush (v := (6 : Int32)) (aX0_putUnary 20 rfl) rfl ?_
      refine pw_callV (Bs := [.int ((6 : Int32))]) (rest := []) (aX0_putUnary 21 rfl) um_RX0_62 ujX0_put wc_RX0_62.2.2.2.2 (by decide) (by decide) rfl rfl (fun d => rX0_put hkb ((6 : Int32)) n sl SH FI FL FR hok) (fun v4 n4 sl4 SH4 FI4 FL4 FR4 hok4 _ => ?_)
      show pw _ _ _ _ _ _ _ 93 _ [] _ _
      refine pw_goto (tgt := 115) (aX0_putUnary 22 rfl) (by decide) ?_
      exact pw_vret (aX0_putUnary 32 rfl) hok4
    · skip
      refine pw_aloadn (aX0_putUnary 23 rfl) rfl ?_
      refine pw_sipush (v := (148 : Int32)) (aX0_putUnary 24 rfl) rfl ?_
      refine pw_callV (Bs := [.int ((148 : Int32))]) (rest := []) (aX0_putUnary 25 rfl) um_RX0_62 ujX0_put wc_RX0_62.2.2.2.2 (by decide) (by decide) rfl rfl (fun d => rX0_put hkb ((148 : Int32)) n sl SH FI FL FR hok) (fun v5 n5 sl5 SH5 FI5 FL5 FR5 hok5 _ => ?_)
      show pw _ _ _ _ _ _ _ 103 _ [] _ _
      refine pw_aloadn (aX0_putUnary 26 rfl) rfl ?_
      refine pw_aloadn (aX0_putUnary 27 rfl) rfl ?_
      refine pw_get (o := a1) (v := fun c7 => .long (FL5 c7 1)) (aX0_putUnary 28 rfl) uf_RX0_99 un_RX0_99 (fun _ => rfl) (fun c7 hc7 _ tc7 => ?_)
      refine pw_l2i (aX0_putUnary 29 rfl) ?_
      refine pw_callV (Bs := [.int ((FL5 c7 1).toInt32)]) (rest := []) (aX0_putUnary 30 rfl) um_RX0_62 ujX0_put wc_RX0_62.2.2.2.2 (by decide) (by decide) rfl rfl (fun d => rX0_put hkb ((FL5 c7 1).toInt32) n5 sl5 SH5 FI5 FL5 FR5 hok5) (fun v7 n7 sl7 SH7 FI7 FL7 FR7 hok7 _ => ?_)
      show pw _ _ _ _ _ _ _ 112 _ [] _ _
      refine pw_goto (tgt := 115) (aX0_putUnary 31 rfl) (by decide) ?_
      exact pw_vret (aX0_putUnary 32 rfl) hok7
  skip
  refine pw_case ((FI c1 0).toInt = 14) (fun b9 => ?_) (fun b9 => ?_)
  · have et : tg = 66 := by
      have e9 : Jvm.Op.lookupswitch.offset [(6, 72), (14, 62), (45, 44), (126, 53)] (111) (14) = 62 := (by decide); rw [b9, e9] at ht; omega
    subst et
    refine pw_aloadn (aX0_putUnary 10 rfl) rfl ?_
    refine pw_sipush (v := (155 : Int32)) (aX0_putUnary 11 rfl) rfl ?_
    refine pw_callV (Bs := [.int ((155 : Int32))]) (rest := []) (aX0_putUnary 12 rfl) um_RX0_62 ujX0_put wc_RX0_62.2.2.2.2 (by decide) (by decide) rfl rfl (fun d => rX0_put hkb ((155 : Int32)) n sl SH FI FL FR hok) (fun v9 n9 sl9 SH9 FI9 FL9 FR9 hok9 _ => ?_)
    show pw _ _ _ _ _ _ _ 73 _ [] _ _
    refine pw_goto (tgt := 115) (aX0_putUnary 13 rfl) (by decide) ?_
    exact pw_vret (aX0_putUnary 32 rfl) hok9
  skip
  refine pw_case ((FI c1 0).toInt = 45) (fun b11 => ?_) (fun b11 => ?_)
  · have et : tg = 48 := by
      have e9 : Jvm.Op.lookupswitch.offset [(6, 72), (14, 62), (45, 44), (126, 53)] (111) (45) = 44 := (by decide); rw [b11, e9] at ht; omega
    subst et
    refine pw_aloadn (aX0_putUnary 2 rfl) rfl ?_
    refine pw_bipush (v := (31 : Int32)) (aX0_putUnary 3 rfl) rfl ?_
    refine pw_callV (Bs := [.int ((31 : Int32))]) (rest := []) (aX0_putUnary 4 rfl) um_RX0_62 ujX0_put wc_RX0_62.2.2.2.2 (by decide) (by decide) rfl rfl (fun d => rX0_put hkb ((31 : Int32)) n sl SH FI FL FR hok) (fun v11 n11 sl11 SH11 FI11 FL11 FR11 hok11 _ => ?_)
    show pw _ _ _ _ _ _ _ 54 _ [] _ _
    refine pw_goto (tgt := 115) (aX0_putUnary 5 rfl) (by decide) ?_
    exact pw_vret (aX0_putUnary 32 rfl) hok11
  skip
  refine pw_case ((FI c1 0).toInt = 126) (fun b13 => ?_) (fun b13 => ?_)
  · have et : tg = 57 := by
      have e9 : Jvm.Op.lookupswitch.offset [(6, 72), (14, 62), (45, 44), (126, 53)] (111) (126) = 53 := (by decide); rw [b13, e9] at ht; omega
    subst et
    refine pw_aloadn (aX0_putUnary 6 rfl) rfl ?_
    refine pw_bipush (v := (32 : Int32)) (aX0_putUnary 7 rfl) rfl ?_
    refine pw_callV (Bs := [.int ((32 : Int32))]) (rest := []) (aX0_putUnary 8 rfl) um_RX0_62 ujX0_put wc_RX0_62.2.2.2.2 (by decide) (by decide) rfl rfl (fun d => rX0_put hkb ((32 : Int32)) n sl SH FI FL FR hok) (fun v13 n13 sl13 SH13 FI13 FL13 FR13 hok13 _ => ?_)
    show pw _ _ _ _ _ _ _ 63 _ [] _ _
    refine pw_goto (tgt := 115) (aX0_putUnary 9 rfl) (by decide) ?_
    exact pw_vret (aX0_putUnary 32 rfl) hok13
  skip
  have et : tg = 115 := by
    simp only [Jvm.Op.lookupswitch.offset] at ht; rw [if_neg (by omega), if_neg (by omega), if_neg (by omega), if_neg (by omega)] at ht; omega
  subst et
  exact pw_vret (aX0_putUnary 32 rfl) hok
set_option maxHeartbeats 4000000 in
set_option maxRecDepth 100000 in
theorem bX0_putBlock_21 {sk : xK} {base N d : Nat} {K21 : Int32 → Nat → Nat → (Nat → Nat × Nat) → (Nat → Nat → Int32) → (Nat → Nat → Int64) → (Nat → Nat → Option Nat) → Unit → hS → Prop} (hkb : x_kb sk base) (a1 : Option Nat) (l2i : Int32)  (n sl : Nat) (SH : Nat → Nat × Nat) (FI : Nat → Nat → Int32) (FL : Nat → Nat → Int64) (FR : Nat → Nat → Option Nat) (hok : pk n SH FR)  (hK21 : ∀ (l2i : Int32) (n sl : Nat) (SH : Nat → Nat × Nat) (FI : Nat → Nat → Int32) (FL : Nat → Nat → Int64) (FR : Nat → Nat → Option Nat), pk n SH FR → pw pj_V sk base N d none 5 21 [(0, .ref (base + 119)), (1, va_rf (h_rf base (a1))), (2, .int (l2i))] [] (n, sl, SH, FI, FL, FR) (K21 l2i n sl SH FI FL FR)) : pw pj_V sk base (N + 1) d none 5 21 [(0, .ref (base + 119)), (1, va_rf (h_rf base (a1))), (2, .int (l2i))] [] (n, sl, SH, FI, FL, FR) (BX0_putBlock_21 K21 a1 l2i n sl SH FI FL FR) := by
  unfold BX0_putBlock_21
  refine pd_iloadn (aX0_putBlock 13 rfl) rfl ?_
  refine pw_aloadn (aX0_putBlock 14 rfl) rfl ?_
  refine pw_alen hkb (o := a1) (aX0_putBlock 15 rfl) (fun c1 hc1 _ => ?_)
  refine pw_icge (tgt := 40) (aX0_putBlock 16 rfl) (by decide) (fun b1 => ?_) (fun b1 => ?_)
  · skip
    refine pw_aloadn (aX0_putBlock 17 rfl) rfl ?_
    refine pw_aloadn (aX0_putBlock 18 rfl) rfl ?_
    refine pw_iloadn (aX0_putBlock 19 rfl) rfl ?_
    refine pw_iald (ix := (l2i).toInt.toNat) (o := a1) (aX0_putBlock 20 rfl) rfl (fun c3 hc3 _ gc3 => ?_)
    refine pw_callV (Bs := [.int (FI c3 (l2i).toInt.toNat)]) (rest := []) (aX0_putBlock 21 rfl) um_RX0_62 ujX0_put wc_RX0_62.2.2.2.2 (by decide) (by decide) rfl rfl (fun d => rX0_put hkb (FI c3 (l2i).toInt.toNat) n sl SH FI FL FR hok) (fun v3 n3 sl3 SH3 FI3 FL3 FR3 hok3 _ => ?_)
    show pw _ _ _ _ _ _ _ 34 _ [] _ _
    refine pw_iinc (v := (l2i) + (1 : Int32)) (L2 := [(2, .int ((l2i) + (1 : Int32))), (0, .ref (base + 119)), (1, va_rf (h_rf base (a1)))]) (aX0_putBlock 22 rfl) rfl rfl (by first | rfl | (simp [x_s1, x_s2, va_cat, va_ci, va_cl, va_cr, va_cn]; done) | (simp [x_s1, x_s2, va_cat, va_ci, va_cl, va_cr, va_cn]; decide)) ?_
    refine pw_goto (tgt := 21) (aX0_putBlock 23 rfl) (by decide) ?_
    exact pw_Li (L2 := [(0, .ref (base + 119)), (1, va_rf (h_rf base (a1))), (2, .int ((l2i) + (1 : Int32)))]) [2, 0, 1] (hK21 ((l2i) + (1 : Int32)) n3 sl3 SH3 FI3 FL3 FR3 hok3) ⟨rfl, rfl, rfl, trivial⟩
  · skip
    exact pw_vret (aX0_putBlock 24 rfl) hok
theorem gX0_putBlock_21 {sk : xK} {base d : Nat}  (hkb : x_kb sk base) (a1 : Option Nat) (N : Nat) :  ∀ (l2i : Int32)  (n sl : Nat) (SH : Nat → Nat × Nat) (FI : Nat → Nat → Int32) (FL : Nat → Nat → Int64) (FR : Nat → Nat → Option Nat), pk n SH FR → pw pj_V sk base N d none 5 21 [(0, .ref (base + 119)), (1, va_rf (h_rf base (a1))), (2, .int (l2i))] [] (n, sl, SH, FI, FL, FR) (GX0_putBlock_21  a1 (N + 1) l2i n sl SH FI FL FR) := by
  induction N with
  | zero => intros; exact pw_0
  | succ N ih => intro   l2i  n sl SH FI FL FR hok; exact bX0_putBlock_21 hkb a1 l2i  n sl SH FI FL FR hok  (ih  )
theorem rX0_putBlock_21 {sk : xK} {base N d : Nat}  (hkb : x_kb sk base) (a1 : Option Nat) (l2i : Int32)  (n sl : Nat) (SH : Nat → Nat × Nat) (FI : Nat → Nat → Int32) (FL : Nat → Nat → Int64) (FR : Nat → Nat → Option Nat) (hok : pk n SH FR)   : pw pj_V sk base N d none 5 21 [(0, .ref (base + 119)), (1, va_rf (h_rf base (a1))), (2, .int (l2i))] [] (n, sl, SH, FI, FL, FR) (RX0_putBlock_21  a1 l2i n sl SH FI FL FR) := pw_cons (gX0_putBlock_21 hkb a1 N   l2i  n sl SH FI FL FR hok) (fun _ _ h => ⟨_, h⟩)
set_option maxHeartbeats 4000000 in
set_option maxRecDepth 100000 in
theorem rX0_putBlock {sk : xK} {base N d : Nat} (hkb : x_kb sk base) (a1 : Option Nat) (n sl : Nat) (SH : Nat → Nat × Nat) (FI : Nat → Nat → Int32) (FL : Nat → Nat → Int64) (FR : Nat → Nat → Option Nat) (hok : pk n SH FR)  : pw pj_V sk base N d none 5 0 [(0, .ref (base + 119)), (1, va_rf (h_rf base (a1)))] [] (n, sl, SH, FI, FL, FR) (RX0_putBlock a1 n sl SH FI FL FR) := by
  unfold RX0_putBlock
  refine pw_aloadn (aX0_putBlock 0 rfl) rfl ?_
  refine pw_innull (o := a1) (tgt := 5) (aX0_putBlock 1 rfl) (by decide) (fun b0 => ?_) (fun b0 => ?_)
  · skip
    exact pw_vret (aX0_putBlock 2 rfl) hok
  · skip
    refine pw_aloadn (aX0_putBlock 3 rfl) rfl ?_
    refine pw_sipush (v := (158 : Int32)) (aX0_putBlock 4 rfl) rfl ?_
    refine pw_callV (Bs := [.int ((158 : Int32))]) (rest := []) (aX0_putBlock 5 rfl) um_RX0_62 ujX0_put wc_RX0_62.2.2.2.2 (by decide) (by decide) rfl rfl (fun d => rX0_put hkb ((158 : Int32)) n sl SH FI FL FR hok) (fun v1 n1 sl1 SH1 FI1 FL1 FR1 hok1 _ => ?_)
    show pw _ _ _ _ _ _ _ 12 _ [] _ _
    refine pw_aloadn (aX0_putBlock 6 rfl) rfl ?_
    refine pw_aloadn (aX0_putBlock 7 rfl) rfl ?_
    refine pw_alen hkb (o := a1) (aX0_putBlock 8 rfl) (fun c3 hc3 _ => ?_)
    refine pw_i2l (aX0_putBlock 9 rfl) ?_
    refine pw_callV (Bs := [.long ((Int32.ofNat (SH1 c3).2).toInt64)]) (rest := []) (aX0_putBlock 10 rfl) um_RX0_66 ujX0_putLeb wc_RX0_66.2.2.2.2 (by decide) (by decide) rfl rfl (fun d => rX0_putLeb hkb ((Int32.ofNat (SH1 c3).2).toInt64) n1 sl1 SH1 FI1 FL1 FR1 hok1) (fun v3 n3 sl3 SH3 FI3 FL3 FR3 hok3 _ => ?_)
    show pw _ _ _ _ _ _ _ 19 _ [] _ _
    refine pw_iconst (v := (0 : Int32)) (aX0_putBlock 11 rfl) rfl ?_
    refine pw_istoren (L2 := [(2, .int ((0 : Int32))), (0, .ref (base + 119)), (1, va_rf (h_rf base (a1)))]) (aX0_putBlock 12 rfl) (by first | rfl | (simp [x_s1, x_s2, va_cat, va_ci, va_cl, va_cr, va_cn]; done) | (simp [x_s1, x_s2, va_cat, va_ci, va_cl, va_cr, va_cn]; decide)) ?_
    exact pw_Li (L2 := [(0, .ref (base + 119)), (1, va_rf (h_rf base (a1))), (2, .int ((0 : Int32)))]) [2, 0, 1] (rX0_putBlock_21 hkb a1 ((0 : Int32)) n3 sl3 SH3 FI3 FL3 FR3 hok3  ) ⟨rfl, rfl, rfl, trivial⟩
set_option maxHeartbeats 4000000 in
set_option maxRecDepth 100000 in
theorem rX0_isBased {sk : xK} {base N d : Nat} (hkb : x_kb sk base) (a1 : Option Nat) (n sl : Nat) (SH : Nat → Nat × Nat) (FI : Nat → Nat → Int32) (FL : Nat → Nat → Int64) (FR : Nat → Nat → Option Nat) (hok : pk n SH FR)  : pw pj_I sk base N d none 10 0 [(0, va_rf (h_rf base (a1)))] [] (n, sl, SH, FI, FL, FR) (RX0_isBased a1 n sl SH FI FL FR) := by
  unfold RX0_isBased
  refine pw_aloadn (aX0_isBased 0 rfl) rfl ?_
  refine pw_get (o := a1) (v := fun c1 => .int (FI c1 0)) (aX0_isBased 1 rfl) uf_RX0_96 un_RX0_96 (fun _ => rfl) (fun c1 hc1 _ tc1 => ?_)
  refine pw_bipush (v := (37 : Int32)) (aX0_isBased 2 rfl) rfl ?_
  refine pw_iceq (tgt := 18) (aX0_isBased 3 rfl) (by decide) (fun b1 => ?_) (fun b1 => ?_)
  · skip
    refine pw_iconst (v := (1 : Int32)) (aX0_isBased 8 rfl) rfl ?_
    refine pw_goto (tgt := 23) (aX0_isBased 9 rfl) (by decide) ?_
    exact pw_iret (aX0_isBased 11 rfl) hok
  · skip
    refine pw_aloadn (aX0_isBased 4 rfl) rfl ?_
    refine pw_get (o := a1) (v := fun c3 => .int (FI c3 0)) (aX0_isBased 5 rfl) uf_RX0_96 un_RX0_96 (fun _ => rfl) (fun c3 hc3 _ tc3 => ?_)
    refine pw_bipush (v := (11 : Int32)) (aX0_isBased 6 rfl) rfl ?_
    refine pw_icne (tgt := 22) (aX0_isBased 7 rfl) (by decide) (fun b3 => ?_) (fun b3 => ?_)
    · skip
      refine pw_iconst (v := (1 : Int32)) (aX0_isBased 8 rfl) rfl ?_
      refine pw_goto (tgt := 23) (aX0_isBased 9 rfl) (by decide) ?_
      exact pw_iret (aX0_isBased 11 rfl) hok
    · skip
      refine pw_iconst (v := (0 : Int32)) (aX0_isBased 10 rfl) rfl ?_
      exact pw_iret (aX0_isBased 11 rfl) hok
set_option maxHeartbeats 4000000 in
set_option maxRecDepth 100000 in
theorem rX0_isPlainTerm {sk : xK} {base N d : Nat} (hkb : x_kb sk base) (a1 : Option Nat) (n sl : Nat) (SH : Nat → Nat × Nat) (FI : Nat → Nat → Int32) (FL : Nat → Nat → Int64) (FR : Nat → Nat → Option Nat) (hok : pk n SH FR)  : pw pj_I sk base N d none 11 0 [(0, va_rf (h_rf base (a1)))] [] (n, sl, SH, FI, FL, FR) (RX0_isPlainTerm a1 n sl SH FI FL FR) := by
  unfold RX0_isPlainTerm
  refine pw_aloadn (aX0_isPlainTerm 0 rfl) rfl ?_
  refine pw_inull (o := a1) (tgt := 34) (aX0_isPlainTerm 1 rfl) (by decide) (fun b0 => ?_) (fun b0 => ?_)
  · skip
    refine pw_iconst (v := (0 : Int32)) (aX0_isPlainTerm 16 rfl) rfl ?_
    exact pw_iret (aX0_isPlainTerm 17 rfl) hok
  · skip
    refine pw_aloadn (aX0_isPlainTerm 2 rfl) rfl ?_
    refine pw_get (o := a1) (v := fun c2 => .int (FI c2 0)) (aX0_isPlainTerm 3 rfl) uf_RX0_96 un_RX0_96 (fun _ => rfl) (fun c2 hc2 _ tc2 => ?_)
    refine pw_iconst (v := (5 : Int32)) (aX0_isPlainTerm 4 rfl) rfl ?_
    refine pw_icne (tgt := 34) (aX0_isPlainTerm 5 rfl) (by decide) (fun b2 => ?_) (fun b2 => ?_)
    · skip
      refine pw_aloadn (aX0_isPlainTerm 6 rfl) rfl ?_
      refine pw_get (o := a1) (v := fun c4 => .int (FI c4 2)) (aX0_isPlainTerm 7 rfl) uf_RX0_139 un_RX0_139 (fun _ => rfl) (fun c4 hc4 _ tc4 => ?_)
      refine pw_bipush (v := (43 : Int32)) (aX0_isPlainTerm 8 rfl) rfl ?_
      refine pw_iceq (tgt := 30) (aX0_isPlainTerm 9 rfl) (by decide) (fun b4 => ?_) (fun b4 => ?_)
      · skip
        refine pw_iconst (v := (1 : Int32)) (aX0_isPlainTerm 14 rfl) rfl ?_
        refine pw_goto (tgt := 35) (aX0_isPlainTerm 15 rfl) (by decide) ?_
        exact pw_iret (aX0_isPlainTerm 17 rfl) hok
      · skip
        refine pw_aloadn (aX0_isPlainTerm 10 rfl) rfl ?_
        refine pw_get (o := a1) (v := fun c6 => .int (FI c6 2)) (aX0_isPlainTerm 11 rfl) uf_RX0_139 un_RX0_139 (fun _ => rfl) (fun c6 hc6 _ tc6 => ?_)
        refine pw_bipush (v := (45 : Int32)) (aX0_isPlainTerm 12 rfl) rfl ?_
        refine pw_icne (tgt := 34) (aX0_isPlainTerm 13 rfl) (by decide) (fun b6 => ?_) (fun b6 => ?_)
        · skip
          refine pw_iconst (v := (1 : Int32)) (aX0_isPlainTerm 14 rfl) rfl ?_
          refine pw_goto (tgt := 35) (aX0_isPlainTerm 15 rfl) (by decide) ?_
          exact pw_iret (aX0_isPlainTerm 17 rfl) hok
        · skip
          refine pw_iconst (v := (0 : Int32)) (aX0_isPlainTerm 16 rfl) rfl ?_
          exact pw_iret (aX0_isPlainTerm 17 rfl) hok
    · skip
      refine pw_iconst (v := (0 : Int32)) (aX0_isPlainTerm 16 rfl) rfl ?_
      exact pw_iret (aX0_isPlainTerm 17 rfl) hok
set_option maxHeartbeats 4000000 in
set_option maxRecDepth 100000 in
theorem rX0_putNode {sk : xK} {base N d : Nat} (hkb : x_kb sk base) (MX0_putNode : Option Nat → Int32 → Nat → Nat → (Nat → Nat × Nat) → (Nat → Nat → Int32) → (Nat → Nat → Int64) → (Nat → Nat → Option Nat) → Unit → hS → Prop) (MX0_putChoice : Option Nat → Int32 → Nat → Nat → (Nat → Nat × Nat) → (Nat → Nat → Int32) → (Nat → Nat → Int64) → (Nat → Nat → Option Nat) → Unit → hS → Prop) (MX0_putChain : Option Nat → Int32 → Nat → Nat → (Nat → Nat × Nat) → (Nat → Nat → Int32) → (Nat → Nat → Int64) → (Nat → Nat → Option Nat) → Unit → hS → Prop) (a1 : Option Nat) (a2 : Int32) (n sl : Nat) (SH : Nat → Nat × Nat) (FI : Nat → Nat → Int32) (FL : Nat → Nat → Int64) (FR : Nat → Nat → Option Nat) (hok : pk n SH FR) (hMX0_putNode : ∀ (a1 : Option Nat) (a2 : Int32) (n sl : Nat) (SH : Nat → Nat × Nat) (FI : Nat → Nat → Int32) (FL : Nat → Nat → Int64) (FR : Nat → Nat → Option Nat), pk n SH FR → ∀ d, pw pj_V sk base (N - 1) d none 6 0 [(0, .ref (base + 119)), (1, va_rf (h_rf base (a1))), (2, .int (a2))] [] (n, sl, SH, FI, FL, FR) (MX0_putNode a1 a2 n sl SH FI FL FR)) (hMX0_putChoice : ∀ (a1 : Option Nat) (a2 : Int32) (n sl : Nat) (SH : Nat → Nat × Nat) (FI : Nat → Nat → Int32) (FL : Nat → Nat → Int64) (FR : Nat → Nat → Option Nat), pk n SH FR → ∀ d, pw pj_V sk base (N - 1) d none 8 0 [(0, .ref (base + 119)), (1, va_rf (h_rf base (a1))), (2, .int (a2))] [] (n, sl, SH, FI, FL, FR) (MX0_putChoice a1 a2 n sl SH FI FL FR)) (hMX0_putChain : ∀ (a1 : Option Nat) (a2 : Int32) (n sl : Nat) (SH : Nat → Nat × Nat) (FI : Nat → Nat → Int32) (FL : Nat → Nat → Int64) (FR : Nat → Nat → Option Nat), pk n SH FR → ∀ d, pw pj_V sk base (N - 1) d none 9 0 [(0, .ref (base + 119)), (1, va_rf (h_rf base (a1))), (2, .int (a2))] [] (n, sl, SH, FI, FL, FR) (MX0_putChain a1 a2 n sl SH FI FL FR)) : pw pj_V sk base N d none 6 0 [(0, .ref (base + 119)), (1, va_rf (h_rf base (a1))), (2, .int (a2))] [] (n, sl, SH, FI, FL, FR) (RX0_putNode MX0_putNode MX0_putChoice MX0_putChain a1 a2 n sl SH FI FL FR) := by
  unfold RX0_putNode
  refine pw_aloadn (aX0_putNode 0 rfl) rfl ?_
  refine pw_inull (o := a1) (tgt := 10) (aX0_putNode 1 rfl) (by decide) (fun b0 => ?_) (fun b0 => ?_)
  · skip
    exact pw_vret (aX0_putNode 5 rfl) hok
  · skip
    refine pw_iloadn (aX0_putNode 2 rfl) rfl ?_
    refine pw_bipush (v := (120 : Int32)) (aX0_putNode 3 rfl) rfl ?_
    refine pw_icle (tgt := 11) (aX0_putNode 4 rfl) (by decide) (fun b1 => ?_) (fun b1 => ?_)
    · skip
      exact pw_vret (aX0_putNode 5 rfl) hok
    · skip
      refine pw_aloadn (aX0_putNode 6 rfl) rfl ?_
      refine pw_get (o := a1) (v := fun c3 => .int (FI c3 0)) (aX0_putNode 7 rfl) uf_RX0_96 un_RX0_96 (fun _ => rfl) (fun c3 hc3 _ tc3 => ?_)
      refine pw_lsw aX0_putNode_15 (fun tg ht => ?_)
      refine pw_case ((FI c3 0).toInt = 5) (fun b4 => ?_) (fun b4 => ?_)
      · have et : tg = 80 := by
          have e9 : Jvm.Op.lookupswitch.offset [(5, 65), (11, 76), (12, 85), (13, 95), (25, 114), (37, 76), (63, 105)] (123) (5) = 65 := (by decide); rw [b4, e9] at ht; omega
        subst et
        refine pw_aloadn (aX0_putNode 8 rfl) rfl ?_
        refine pw_aloadn (aX0_putNode 9 rfl) rfl ?_
        refine pw_get (o := a1) (v := fun c5 => .long (FL c5 1)) (aX0_putNode 10 rfl) uf_RX0_99 un_RX0_99 (fun _ => rfl) (fun c5 hc5 _ tc5 => ?_)
        refine pw_callV (Bs := [.long (FL c5 1)]) (rest := []) (aX0_putNode 11 rfl) um_RX0_100 ujX0_putConstant wc_RX0_100.2.2.2.2 (by decide) (by decide) rfl rfl (fun d => rX0_putConstant hkb (FL c5 1) n sl SH FI FL FR hok) (fun v5 n5 sl5 SH5 FI5 FL5 FR5 hok5 _ => ?_)
        show pw _ _ _ _ _ _ _ 88 _ [] _ _
        refine pw_goto (tgt := 154) (aX0_putNode 12 rfl) (by decide) ?_
        exact pw_vret (aX0_putNode 46 rfl) hok5
      skip
      refine pw_case ((FI c3 0).toInt = 11 ∨ (FI c3 0).toInt = 37) (fun b7 => ?_) (fun b7 => ?_)
      · have et : tg = 91 := by
          rcases b7 with h9 | h9
          · have e9 : Jvm.Op.lookupswitch.offset [(5, 65), (11, 76), (12, 85), (13, 95), (25, 114), (37, 76), (63, 105)] (123) (11) = 76 := (by decide); rw [h9, e9] at ht; omega
          · have e9 : Jvm.Op.lookupswitch.offset [(5, 65), (11, 76), (12, 85), (13, 95), (25, 114), (37, 76), (63, 105)] (123) (37) = 76 := (by decide); rw [h9, e9] at ht; omega
        subst et
        refine pw_aloadn (aX0_putNode 13 rfl) rfl ?_
        refine pw_aloadn (aX0_putNode 14 rfl) rfl ?_
        refine pw_lconst (v := (0 : Int64)) (aX0_putNode 15 rfl) rfl ?_
        refine pw_callV (Bs := [va_rf (h_rf base (a1)), .long ((0 : Int64))]) (L2 := [(0, .ref (base + 119)), (1, va_rf (h_rf base (a1))), (2, .long ((0 : Int64)))]) (rest := []) (aX0_putNode 16 rfl) um_RX0_103 ujX0_putBased wc_RX0_103.2.2.2.2 (by decide) (by decide) rfl (by first | rfl | simp [lv_args, va_cat, va_ci, va_cl, va_cr, va_cn]) (fun d => rX0_putBased hkb (a1) ((0 : Int64)) n sl SH FI FL FR hok) (fun v7 n7 sl7 SH7 FI7 FL7 FR7 hok7 _ => ?_)
        show pw _ _ _ _ _ _ _ 97 _ [] _ _
        refine pw_goto (tgt := 154) (aX0_putNode 17 rfl) (by decide) ?_
        exact pw_vret (aX0_putNode 46 rfl) hok7
      skip
      refine pw_case ((FI c3 0).toInt = 12) (fun b9 => ?_) (fun b9 => ?_)
      · have et : tg = 100 := by
          have e9 : Jvm.Op.lookupswitch.offset [(5, 65), (11, 76), (12, 85), (13, 95), (25, 114), (37, 76), (63, 105)] (123) (12) = 85 := (by decide); rw [b9, e9] at ht; omega
        subst et
        refine pw_aloadn (aX0_putNode 18 rfl) rfl ?_
        refine pw_sipush (v := (156 : Int32)) (aX0_putNode 19 rfl) rfl ?_
        refine pw_callV (Bs := [.int ((156 : Int32))]) (rest := []) (aX0_putNode 20 rfl) um_RX0_62 ujX0_put wc_RX0_62.2.2.2.2 (by decide) (by decide) rfl rfl (fun d => rX0_put hkb ((156 : Int32)) n sl SH FI FL FR hok) (fun v9 n9 sl9 SH9 FI9 FL9 FR9 hok9 _ => ?_)
        show pw _ _ _ _ _ _ _ 107 _ [] _ _
        refine pw_goto (tgt := 154) (aX0_putNode 21 rfl) (by decide) ?_
        exact pw_vret (aX0_putNode 46 rfl) hok9
      skip
      refine pw_case ((FI c3 0).toInt = 13) (fun b11 => ?_) (fun b11 => ?_)
      · have et : tg = 110 := by
          have e9 : Jvm.Op.lookupswitch.offset [(5, 65), (11, 76), (12, 85), (13, 95), (25, 114), (37, 76), (63, 105)] (123) (13) = 95 := (by decide); rw [b11, e9] at ht; omega
        subst et
        refine pw_aloadn (aX0_putNode 22 rfl) rfl ?_
        refine pw_sipush (v := (151 : Int32)) (aX0_putNode 23 rfl) rfl ?_
        refine pw_callV (Bs := [.int ((151 : Int32))]) (rest := []) (aX0_putNode 24 rfl) um_RX0_62 ujX0_put wc_RX0_62.2.2.2.2 (by decide) (by decide) rfl rfl (fun d => rX0_put hkb ((151 : Int32)) n sl SH FI FL FR hok) (fun v11 n11 sl11 SH11 FI11 FL11 FR11 hok11 _ => ?_)
        show pw _ _ _ _ _ _ _ 117 _ [] _ _
        refine pw_goto (tgt := 154) (aX0_putNode 25 rfl) (by decide) ?_
        exact pw_vret (aX0_putNode 46 rfl) hok11
      skip
      refine pw_case ((FI c3 0).toInt = 25) (fun b13 => ?_) (fun b13 => ?_)
      · have et : tg = 129 := by
          have e9 : Jvm.Op.lookupswitch.offset [(5, 65), (11, 76), (12, 85), (13, 95), (25, 114), (37, 76), (63, 105)] (123) (25) = 114 := (by decide); rw [b13, e9] at ht; omega
        subst et
        refine pw_aloadn (aX0_putNode 31 rfl) rfl ?_
        refine pw_aloadn (aX0_putNode 32 rfl) rfl ?_
        refine pw_iloadn (aX0_putNode 33 rfl) rfl ?_
        refine pw_callV (Bs := [va_rf (h_rf base (a1)), .int (a2)]) (L2 := [(0, .ref (base + 119)), (1, va_rf (h_rf base (a1))), (2, .int (a2))]) (rest := []) (aX0_putNode 34 rfl) um_RX0_110 ujX0_putChain wc_RX0_110.2.2.2.2 (by decide) (by decide) rfl (by first | rfl | simp [lv_args, va_cat, va_ci, va_cl, va_cr, va_cn]) (fun d => pw_mono (hMX0_putChain (a1) (a2) n sl SH FI FL FR hok d) (by omega)) (fun v13 n13 sl13 SH13 FI13 FL13 FR13 hok13 _ => ?_)
        show pw _ _ _ _ _ _ _ 135 _ [] _ _
        refine pw_goto (tgt := 154) (aX0_putNode 35 rfl) (by decide) ?_
        exact pw_vret (aX0_putNode 46 rfl) hok13
      skip
      refine pw_case ((FI c3 0).toInt = 63) (fun b15 => ?_) (fun b15 => ?_)
      · have et : tg = 120 := by
          have e9 : Jvm.Op.lookupswitch.offset [(5, 65), (11, 76), (12, 85), (13, 95), (25, 114), (37, 76), (63, 105)] (123) (63) = 105 := (by decide); rw [b15, e9] at ht; omega
        subst et
        refine pw_aloadn (aX0_putNode 26 rfl) rfl ?_
        refine pw_aloadn (aX0_putNode 27 rfl) rfl ?_
        refine pw_iloadn (aX0_putNode 28 rfl) rfl ?_
        refine pw_callV (Bs := [va_rf (h_rf base (a1)), .int (a2)]) (L2 := [(0, .ref (base + 119)), (1, va_rf (h_rf base (a1))), (2, .int (a2))]) (rest := []) (aX0_putNode 29 rfl) um_RX0_107 ujX0_putChoice wc_RX0_107.2.2.2.2 (by decide) (by decide) rfl (by first | rfl | simp [lv_args, va_cat, va_ci, va_cl, va_cr, va_cn]) (fun d => pw_mono (hMX0_putChoice (a1) (a2) n sl SH FI FL FR hok d) (by omega)) (fun v15 n15 sl15 SH15 FI15 FL15 FR15 hok15 _ => ?_)
        show pw _ _ _ _ _ _ _ 126 _ [] _ _
        refine pw_goto (tgt := 154) (aX0_putNode 30 rfl) (by decide) ?_
        exact pw_vret (aX0_putNode 46 rfl) hok15
      skip
      have et : tg = 138 := by
        simp only [Jvm.Op.lookupswitch.offset] at ht; rw [if_neg (by omega), if_neg (by omega), if_neg (by omega), if_neg (by omega), if_neg (by omega), if_neg (by omega), if_neg (by omega)] at ht; omega
      subst et
      refine pw_aloadn (aX0_putNode 36 rfl) rfl ?_
      refine pw_aloadn (aX0_putNode 37 rfl) rfl ?_
      refine pw_get (o := a1) (v := fun c17 => va_rf (h_rf base (FR c17 3))) (aX0_putNode 38 rfl) uf_RX0_113 un_RX0_113 (fun _ => rfl) (fun c17 hc17 _ tc17 => ?_)
      refine pw_iloadn (aX0_putNode 39 rfl) rfl ?_
      refine pw_iconst (v := (1 : Int32)) (aX0_putNode 40 rfl) rfl ?_
      refine pw_iadd (aX0_putNode 41 rfl) ?_
      refine pw_callV (Bs := [va_rf (h_rf base (FR c17 3)), .int ((a2) + ((1 : Int32)))]) (L2 := [(0, .ref (base + 119)), (1, va_rf (h_rf base (FR c17 3))), (2, .int ((a2) + ((1 : Int32))))]) (rest := []) (aX0_putNode 42 rfl) um_RX0_85 ujX0_putNode wc_RX0_85.2.2.2.2 (by decide) (by decide) rfl (by first | rfl | simp [lv_args, va_cat, va_ci, va_cl, va_cr, va_cn]) (fun d => pw_mono (hMX0_putNode (FR c17 3) ((a2) + ((1 : Int32))) n sl SH FI FL FR hok d) (by omega)) (fun v17 n17 sl17 SH17 FI17 FL17 FR17 hok17 _ => ?_)
      show pw _ _ _ _ _ _ _ 149 _ [] _ _
      refine pw_aloadn (aX0_putNode 43 rfl) rfl ?_
      refine pw_aloadn (aX0_putNode 44 rfl) rfl ?_
      refine pw_callV (Bs := [va_rf (h_rf base (a1))]) (L2 := [(0, .ref (base + 119)), (1, va_rf (h_rf base (a1)))]) (rest := []) (aX0_putNode 45 rfl) um_RX0_116 ujX0_putUnary wc_RX0_116.2.2.2.2 (by decide) (by decide) rfl (by first | rfl | simp [lv_args, va_cat, va_ci, va_cl, va_cr, va_cn]) (fun d => rX0_putUnary hkb (a1) n17 sl17 SH17 FI17 FL17 FR17 hok17) (fun v18 n18 sl18 SH18 FI18 FL18 FR18 hok18 _ => ?_)
      show pw _ _ _ _ _ _ _ 154 _ [] _ _
      exact pw_vret (aX0_putNode 46 rfl) hok18
set_option maxHeartbeats 4000000 in
set_option maxRecDepth 100000 in
theorem rX0_putChoice {sk : xK} {base N d : Nat} (hkb : x_kb sk base) (MX0_putNode : Option Nat → Int32 → Nat → Nat → (Nat → Nat × Nat) → (Nat → Nat → Int32) → (Nat → Nat → Int64) → (Nat → Nat → Option Nat) → Unit → hS → Prop) (MX0_putChoice : Option Nat → Int32 → Nat → Nat → (Nat → Nat × Nat) → (Nat → Nat → Int32) → (Nat → Nat → Int64) → (Nat → Nat → Option Nat) → Unit → hS → Prop) (MX0_putChain : Option Nat → Int32 → Nat → Nat → (Nat → Nat × Nat) → (Nat → Nat → Int32) → (Nat → Nat → Int64) → (Nat → Nat → Option Nat) → Unit → hS → Prop) (a1 : Option Nat) (a2 : Int32) (n sl : Nat) (SH : Nat → Nat × Nat) (FI : Nat → Nat → Int32) (FL : Nat → Nat → Int64) (FR : Nat → Nat → Option Nat) (hok : pk n SH FR) (hMX0_putNode : ∀ (a1 : Option Nat) (a2 : Int32) (n sl : Nat) (SH : Nat → Nat × Nat) (FI : Nat → Nat → Int32) (FL : Nat → Nat → Int64) (FR : Nat → Nat → Option Nat), pk n SH FR → ∀ d, pw pj_V sk base (N - 1) d none 6 0 [(0, .ref (base + 119)), (1, va_rf (h_rf base (a1))), (2, .int (a2))] [] (n, sl, SH, FI, FL, FR) (MX0_putNode a1 a2 n sl SH FI FL FR)) (hMX0_putChoice : ∀ (a1 : Option Nat) (a2 : Int32) (n sl : Nat) (SH : Nat → Nat × Nat) (FI : Nat → Nat → Int32) (FL : Nat → Nat → Int64) (FR : Nat → Nat → Option Nat), pk n SH FR → ∀ d, pw pj_V sk base (N - 1) d none 8 0 [(0, .ref (base + 119)), (1, va_rf (h_rf base (a1))), (2, .int (a2))] [] (n, sl, SH, FI, FL, FR) (MX0_putChoice a1 a2 n sl SH FI FL FR)) (hMX0_putChain : ∀ (a1 : Option Nat) (a2 : Int32) (n sl : Nat) (SH : Nat → Nat × Nat) (FI : Nat → Nat → Int32) (FL : Nat → Nat → Int64) (FR : Nat → Nat → Option Nat), pk n SH FR → ∀ d, pw pj_V sk base (N - 1) d none 9 0 [(0, .ref (base + 119)), (1, va_rf (h_rf base (a1))), (2, .int (a2))] [] (n, sl, SH, FI, FL, FR) (MX0_putChain a1 a2 n sl SH FI FL FR)) : pw pj_V sk base N d none 8 0 [(0, .ref (base + 119)), (1, va_rf (h_rf base (a1))), (2, .int (a2))] [] (n, sl, SH, FI, FL, FR) (RX0_putChoice MX0_putNode MX0_putChoice MX0_putChain a1 a2 n sl SH FI FL FR) := by
  unfold RX0_putChoice
  refine pw_aloadn (aX0_putChoice 0 rfl) rfl ?_
  refine pw_aloadn (aX0_putChoice 1 rfl) rfl ?_
  refine pw_get (o := a1) (v := fun c1 => va_rf (h_rf base (FR c1 3))) (aX0_putChoice 2 rfl) uf_RX0_113 un_RX0_113 (fun _ => rfl) (fun c1 hc1 _ tc1 => ?_)
  refine pw_iloadn (aX0_putChoice 3 rfl) rfl ?_
  refine pw_iconst (v := (1 : Int32)) (aX0_putChoice 4 rfl) rfl ?_
  refine pw_iadd (aX0_putChoice 5 rfl) ?_
  refine pw_callV (Bs := [va_rf (h_rf base (FR c1 3)), .int ((a2) + ((1 : Int32)))]) (L2 := [(0, .ref (base + 119)), (1, va_rf (h_rf base (FR c1 3))), (2, .int ((a2) + ((1 : Int32))))]) (rest := []) (aX0_putChoice 6 rfl) um_RX0_85 ujX0_putNode wc_RX0_85.2.2.2.2 (by decide) (by decide) rfl (by first | rfl | simp [lv_args, va_cat, va_ci, va_cl, va_cr, va_cn]) (fun d => pw_mono (hMX0_putNode (FR c1 3) ((a2) + ((1 : Int32))) n sl SH FI FL FR hok d) (by omega)) (fun v1 n1 sl1 SH1 FI1 FL1 FR1 hok1 _ => ?_)
  show pw _ _ _ _ _ _ _ 11 _ [] _ _
  refine pw_aloadn (aX0_putChoice 7 rfl) rfl ?_
  refine pw_bipush (v := (40 : Int32)) (aX0_putChoice 8 rfl) rfl ?_
  refine pw_callV (Bs := [.int ((40 : Int32))]) (rest := []) (aX0_putChoice 9 rfl) um_RX0_62 ujX0_put wc_RX0_62.2.2.2.2 (by decide) (by decide) rfl rfl (fun d => rX0_put hkb ((40 : Int32)) n1 sl1 SH1 FI1 FL1 FR1 hok1) (fun v2 n2 sl2 SH2 FI2 FL2 FR2 hok2 _ => ?_)
  show pw _ _ _ _ _ _ _ 17 _ [] _ _
  refine pw_aloadn (aX0_putChoice 10 rfl) rfl ?_
  refine pw_getr (v := .int (FI2 119 1)) (aX0_putChoice 11 rfl) uf_RX0_15 un_RX0_15 rfl ?_
  refine pw_istoren (L2 := [(3, .int (FI2 119 1)), (0, .ref (base + 119)), (1, va_rf (h_rf base (a1))), (2, .int (a2))]) (aX0_putChoice 12 rfl) (by first | rfl | (simp [x_s1, x_s2, va_cat, va_ci, va_cl, va_cr, va_cn]; done) | (simp [x_s1, x_s2, va_cat, va_ci, va_cl, va_cr, va_cn]; decide)) ?_
  refine pw_aloadn (aX0_putChoice 13 rfl) rfl ?_
  refine pw_lconst (v := (0 : Int64)) (aX0_putChoice 14 rfl) rfl ?_
  refine pw_iconst (v := (2 : Int32)) (aX0_putChoice 15 rfl) rfl ?_
  refine pw_callV (Bs := [.long ((0 : Int64)), .int ((2 : Int32))]) (rest := []) (aX0_putChoice 16 rfl) um_RX0_36 ujX0_putNumber wc_RX0_36.2.2.2.2 (by decide) (by decide) rfl rfl (fun d => rX0_putNumber hkb ((0 : Int64)) ((2 : Int32)) n2 sl2 SH2 FI2 FL2 FR2 hok2) (fun v3 n3 sl3 SH3 FI3 FL3 FR3 hok3 _ => ?_)
  show pw _ _ _ _ _ _ _ 28 _ [] _ _
  refine pw_aloadn (aX0_putChoice 17 rfl) rfl ?_
  refine pw_aloadn (aX0_putChoice 18 rfl) rfl ?_
  refine pw_get (o := a1) (v := fun c5 => va_rf (h_rf base (FR3 c5 5))) (aX0_putChoice 19 rfl) uf_RX0_124 un_RX0_124 (fun _ => rfl) (fun c5 hc5 _ tc5 => ?_)
  refine pw_iloadn (aX0_putChoice 20 rfl) rfl ?_
  refine pw_iconst (v := (1 : Int32)) (aX0_putChoice 21 rfl) rfl ?_
  refine pw_iadd (aX0_putChoice 22 rfl) ?_
  refine pw_callV (Bs := [va_rf (h_rf base (FR3 c5 5)), .int ((a2) + ((1 : Int32)))]) (L2 := [(0, .ref (base + 119)), (1, va_rf (h_rf base (FR3 c5 5))), (2, .int ((a2) + ((1 : Int32))))]) (rest := []) (aX0_putChoice 23 rfl) um_RX0_85 ujX0_putNode wc_RX0_85.2.2.2.2 (by decide) (by decide) rfl (by first | rfl | simp [lv_args, va_cat, va_ci, va_cl, va_cr, va_cn]) (fun d => pw_mono (hMX0_putNode (FR3 c5 5) ((a2) + ((1 : Int32))) n3 sl3 SH3 FI3 FL3 FR3 hok3 d) (by omega)) (fun v5 n5 sl5 SH5 FI5 FL5 FR5 hok5 _ => ?_)
  show pw _ _ _ _ _ _ _ 39 _ [] _ _
  refine pw_aloadn (aX0_putChoice 24 rfl) rfl ?_
  refine pw_bipush (v := (47 : Int32)) (aX0_putChoice 25 rfl) rfl ?_
  refine pw_callV (Bs := [.int ((47 : Int32))]) (rest := []) (aX0_putChoice 26 rfl) um_RX0_62 ujX0_put wc_RX0_62.2.2.2.2 (by decide) (by decide) rfl rfl (fun d => rX0_put hkb ((47 : Int32)) n5 sl5 SH5 FI5 FL5 FR5 hok5) (fun v6 n6 sl6 SH6 FI6 FL6 FR6 hok6 _ => ?_)
  show pw _ _ _ _ _ _ _ 45 _ [] _ _
  refine pw_aloadn (aX0_putChoice 27 rfl) rfl ?_
  refine pw_getr (v := .int (FI6 119 1)) (aX0_putChoice 28 rfl) uf_RX0_15 un_RX0_15 rfl ?_
  refine pw_istore (L2 := [(4, .int (FI6 119 1)), (3, .int (FI2 119 1)), (0, .ref (base + 119)), (1, va_rf (h_rf base (a1))), (2, .int (a2))]) (aX0_putChoice 29 rfl) (by first | rfl | (simp [x_s1, x_s2, va_cat, va_ci, va_cl, va_cr, va_cn]; done) | (simp [x_s1, x_s2, va_cat, va_ci, va_cl, va_cr, va_cn]; decide)) ?_
  refine pw_aloadn (aX0_putChoice 30 rfl) rfl ?_
  refine pw_lconst (v := (0 : Int64)) (aX0_putChoice 31 rfl) rfl ?_
  refine pw_iconst (v := (2 : Int32)) (aX0_putChoice 32 rfl) rfl ?_
  refine pw_callV (Bs := [.long ((0 : Int64)), .int ((2 : Int32))]) (rest := []) (aX0_putChoice 33 rfl) um_RX0_36 ujX0_putNumber wc_RX0_36.2.2.2.2 (by decide) (by decide) rfl rfl (fun d => rX0_putNumber hkb ((0 : Int64)) ((2 : Int32)) n6 sl6 SH6 FI6 FL6 FR6 hok6) (fun v7 n7 sl7 SH7 FI7 FL7 FR7 hok7 _ => ?_)
  show pw _ _ _ _ _ _ _ 57 _ [] _ _
  refine pw_aloadn (aX0_putChoice 34 rfl) rfl ?_
  refine pw_iloadn (aX0_putChoice 35 rfl) rfl ?_
  refine pw_aloadn (aX0_putChoice 36 rfl) rfl ?_
  refine pw_getr (v := .int (FI7 119 1)) (aX0_putChoice 37 rfl) uf_RX0_15 un_RX0_15 rfl ?_
  refine pw_iloadn (aX0_putChoice 38 rfl) rfl ?_
  refine pw_isub (aX0_putChoice 39 rfl) ?_
  refine pw_iconst (v := (2 : Int32)) (aX0_putChoice 40 rfl) rfl ?_
  refine pw_isub (aX0_putChoice 41 rfl) ?_
  refine pw_callV (Bs := [.int (FI2 119 1), .int (((FI7 119 1) - (FI2 119 1)) - ((2 : Int32)))]) (rest := []) (aX0_putChoice 42 rfl) um_RX0_43 ujX0_patch wc_RX0_43.2.2.2.2 (by decide) (by decide) rfl rfl (fun d => rX0_patch hkb (FI2 119 1) (((FI7 119 1) - (FI2 119 1)) - ((2 : Int32))) n7 sl7 SH7 FI7 FL7 FR7 hok7) (fun v8 n8 sl8 SH8 FI8 FL8 FR8 hok8 _ => ?_)
  show pw _ _ _ _ _ _ _ 70 _ [] _ _
  refine pw_aloadn (aX0_putChoice 43 rfl) rfl ?_
  refine pw_aloadn (aX0_putChoice 44 rfl) rfl ?_
  refine pw_get (o := a1) (v := fun c10 => va_rf (h_rf base (FR8 c10 4))) (aX0_putChoice 45 rfl) uf_RX0_127 un_RX0_127 (fun _ => rfl) (fun c10 hc10 _ tc10 => ?_)
  refine pw_iloadn (aX0_putChoice 46 rfl) rfl ?_
  refine pw_iconst (v := (1 : Int32)) (aX0_putChoice 47 rfl) rfl ?_
  refine pw_iadd (aX0_putChoice 48 rfl) ?_
  refine pw_callV (Bs := [va_rf (h_rf base (FR8 c10 4)), .int ((a2) + ((1 : Int32)))]) (L2 := [(0, .ref (base + 119)), (1, va_rf (h_rf base (FR8 c10 4))), (2, .int ((a2) + ((1 : Int32))))]) (rest := []) (aX0_putChoice 49 rfl) um_RX0_85 ujX0_putNode wc_RX0_85.2.2.2.2 (by decide) (by decide) rfl (by first | rfl | simp [lv_args, va_cat, va_ci, va_cl, va_cr, va_cn]) (fun d => pw_mono (hMX0_putNode (FR8 c10 4) ((a2) + ((1 : Int32))) n8 sl8 SH8 FI8 FL8 FR8 hok8 d) (by omega)) (fun v10 n10 sl10 SH10 FI10 FL10 FR10 hok10 _ => ?_)
  show pw _ _ _ _ _ _ _ 81 _ [] _ _
  refine pw_aloadn (aX0_putChoice 50 rfl) rfl ?_
  refine pw_iload (aX0_putChoice 51 rfl) rfl ?_
  refine pw_aloadn (aX0_putChoice 52 rfl) rfl ?_
  refine pw_getr (v := .int (FI10 119 1)) (aX0_putChoice 53 rfl) uf_RX0_15 un_RX0_15 rfl ?_
  refine pw_iload (aX0_putChoice 54 rfl) rfl ?_
  refine pw_isub (aX0_putChoice 55 rfl) ?_
  refine pw_iconst (v := (2 : Int32)) (aX0_putChoice 56 rfl) rfl ?_
  refine pw_isub (aX0_putChoice 57 rfl) ?_
  refine pw_callV (Bs := [.int (FI6 119 1), .int (((FI10 119 1) - (FI6 119 1)) - ((2 : Int32)))]) (rest := []) (aX0_putChoice 58 rfl) um_RX0_43 ujX0_patch wc_RX0_43.2.2.2.2 (by decide) (by decide) rfl rfl (fun d => rX0_patch hkb (FI6 119 1) (((FI10 119 1) - (FI6 119 1)) - ((2 : Int32))) n10 sl10 SH10 FI10 FL10 FR10 hok10) (fun v11 n11 sl11 SH11 FI11 FL11 FR11 hok11 _ => ?_)
  show pw _ _ _ _ _ _ _ 96 _ [] _ _
  exact pw_vret (aX0_putChoice 59 rfl) hok11
set_option maxHeartbeats 4000000 in
set_option maxRecDepth 100000 in
theorem rX0_putChain_145 {sk : xK} {base N d : Nat} {K82 : Option Nat → Nat → Nat → (Nat → Nat × Nat) → (Nat → Nat → Int32) → (Nat → Nat → Int64) → (Nat → Nat → Option Nat) → Unit → hS → Prop} (hkb : x_kb sk base) (MX0_putNode : Option Nat → Int32 → Nat → Nat → (Nat → Nat × Nat) → (Nat → Nat → Int32) → (Nat → Nat → Int64) → (Nat → Nat → Option Nat) → Unit → hS → Prop) (MX0_putChoice : Option Nat → Int32 → Nat → Nat → (Nat → Nat × Nat) → (Nat → Nat → Int32) → (Nat → Nat → Int64) → (Nat → Nat → Option Nat) → Unit → hS → Prop) (MX0_putChain : Option Nat → Int32 → Nat → Nat → (Nat → Nat × Nat) → (Nat → Nat → Int32) → (Nat → Nat → Int64) → (Nat → Nat → Option Nat) → Unit → hS → Prop) (a1 : Option Nat) (a2 : Int32) (l5o : Option Nat) (l3o : Option Nat) (l4o : Option Nat) (n sl : Nat) (SH : Nat → Nat × Nat) (FI : Nat → Nat → Int32) (FL : Nat → Nat → Int64) (FR : Nat → Nat → Option Nat) (hok : pk n SH FR) (hMX0_putNode : ∀ (a1 : Option Nat) (a2 : Int32) (n sl : Nat) (SH : Nat → Nat × Nat) (FI : Nat → Nat → Int32) (FL : Nat → Nat → Int64) (FR : Nat → Nat → Option Nat), pk n SH FR → ∀ d, pw pj_V sk base (N - 1) d none 6 0 [(0, .ref (base + 119)), (1, va_rf (h_rf base (a1))), (2, .int (a2))] [] (n, sl, SH, FI, FL, FR) (MX0_putNode a1 a2 n sl SH FI FL FR)) (hMX0_putChoice : ∀ (a1 : Option Nat) (a2 : Int32) (n sl : Nat) (SH : Nat → Nat × Nat) (FI : Nat → Nat → Int32) (FL : Nat → Nat → Int64) (FR : Nat → Nat → Option Nat), pk n SH FR → ∀ d, pw pj_V sk base (N - 1) d none 8 0 [(0, .ref (base + 119)), (1, va_rf (h_rf base (a1))), (2, .int (a2))] [] (n, sl, SH, FI, FL, FR) (MX0_putChoice a1 a2 n sl SH FI FL FR)) (hMX0_putChain : ∀ (a1 : Option Nat) (a2 : Int32) (n sl : Nat) (SH : Nat → Nat × Nat) (FI : Nat → Nat → Int32) (FL : Nat → Nat → Int64) (FR : Nat → Nat → Option Nat), pk n SH FR → ∀ d, pw pj_V sk base (N - 1) d none 9 0 [(0, .ref (base + 119)), (1, va_rf (h_rf base (a1))), (2, .int (a2))] [] (n, sl, SH, FI, FL, FR) (MX0_putChain a1 a2 n sl SH FI FL FR)) (hK82 : ∀ (l5o : Option Nat) (l3o : Option Nat) (l4o : Option Nat) (n sl : Nat) (SH : Nat → Nat × Nat) (FI : Nat → Nat → Int32) (FL : Nat → Nat → Int64) (FR : Nat → Nat → Option Nat), pk n SH FR → pw pj_V sk base N d none 9 82 [(0, .ref (base + 119)), (1, va_rf (h_rf base (a1))), (2, .int (a2)), (3, va_rf (h_rf base (l3o))), (4, va_rf (h_rf base (l4o))), (5, va_rf (h_rf base (l5o)))] [] (n, sl, SH, FI, FL, FR) (K82 l5o n sl SH FI FL FR)) : pw pj_V sk base N d none 9 145 [(0, .ref (base + 119)), (1, va_rf (h_rf base (a1))), (2, .int (a2)), (3, va_rf (h_rf base (l3o))), (4, va_rf (h_rf base (l4o))), (5, va_rf (h_rf base (l5o)))] [] (n, sl, SH, FI, FL, FR) (RX0_putChain_145 K82 MX0_putNode MX0_putChoice MX0_putChain a1 a2 l5o n sl SH FI FL FR) := by
  unfold RX0_putChain_145
  refine pw_aload (aX0_putChain 69 rfl) rfl ?_
  refine pw_get (o := l5o) (v := fun c1 => va_rf (h_rf base (FR c1 6))) (aX0_putChain 70 rfl) uf_RX0_130 un_RX0_130 (fun _ => rfl) (fun c1 hc1 _ tc1 => ?_)
  refine pw_astore (L2 := [(5, va_rf (h_rf base (FR c1 6))), (0, .ref (base + 119)), (1, va_rf (h_rf base (a1))), (2, .int (a2)), (3, va_rf (h_rf base (l3o))), (4, va_rf (h_rf base (l4o)))]) (aX0_putChain 71 rfl) (by first | rfl | (simp [x_s1, x_s2, va_cat, va_ci, va_cl, va_cr, va_cn]; done) | (simp [x_s1, x_s2, va_cat, va_ci, va_cl, va_cr, va_cn]; decide)) ?_
  refine pw_goto (tgt := 82) (aX0_putChain 72 rfl) (by decide) ?_
  exact pw_Li (L2 := [(0, .ref (base + 119)), (1, va_rf (h_rf base (a1))), (2, .int (a2)), (3, va_rf (h_rf base (l3o))), (4, va_rf (h_rf base (l4o))), (5, va_rf (h_rf base (FR c1 6)))]) [5, 0, 1, 2, 3, 4] (hK82 (FR c1 6) (l3o) (l4o) n sl SH FI FL FR hok) ⟨rfl, rfl, rfl, rfl, rfl, rfl, trivial⟩
set_option maxHeartbeats 4000000 in
set_option maxRecDepth 100000 in
theorem rX0_putChain_124 {sk : xK} {base N d : Nat} {K82 : Option Nat → Nat → Nat → (Nat → Nat × Nat) → (Nat → Nat → Int32) → (Nat → Nat → Int64) → (Nat → Nat → Option Nat) → Unit → hS → Prop} (hkb : x_kb sk base) (MX0_putNode : Option Nat → Int32 → Nat → Nat → (Nat → Nat × Nat) → (Nat → Nat → Int32) → (Nat → Nat → Int64) → (Nat → Nat → Option Nat) → Unit → hS → Prop) (MX0_putChoice : Option Nat → Int32 → Nat → Nat → (Nat → Nat × Nat) → (Nat → Nat → Int32) → (Nat → Nat → Int64) → (Nat → Nat → Option Nat) → Unit → hS → Prop) (MX0_putChain : Option Nat → Int32 → Nat → Nat → (Nat → Nat × Nat) → (Nat → Nat → Int32) → (Nat → Nat → Int64) → (Nat → Nat → Option Nat) → Unit → hS → Prop) (a1 : Option Nat) (a2 : Int32) (l5o : Option Nat) (l3o : Option Nat) (l4o : Option Nat) (n sl : Nat) (SH : Nat → Nat × Nat) (FI : Nat → Nat → Int32) (FL : Nat → Nat → Int64) (FR : Nat → Nat → Option Nat) (hok : pk n SH FR) (hMX0_putNode : ∀ (a1 : Option Nat) (a2 : Int32) (n sl : Nat) (SH : Nat → Nat × Nat) (FI : Nat → Nat → Int32) (FL : Nat → Nat → Int64) (FR : Nat → Nat → Option Nat), pk n SH FR → ∀ d, pw pj_V sk base (N - 1) d none 6 0 [(0, .ref (base + 119)), (1, va_rf (h_rf base (a1))), (2, .int (a2))] [] (n, sl, SH, FI, FL, FR) (MX0_putNode a1 a2 n sl SH FI FL FR)) (hMX0_putChoice : ∀ (a1 : Option Nat) (a2 : Int32) (n sl : Nat) (SH : Nat → Nat × Nat) (FI : Nat → Nat → Int32) (FL : Nat → Nat → Int64) (FR : Nat → Nat → Option Nat), pk n SH FR → ∀ d, pw pj_V sk base (N - 1) d none 8 0 [(0, .ref (base + 119)), (1, va_rf (h_rf base (a1))), (2, .int (a2))] [] (n, sl, SH, FI, FL, FR) (MX0_putChoice a1 a2 n sl SH FI FL FR)) (hMX0_putChain : ∀ (a1 : Option Nat) (a2 : Int32) (n sl : Nat) (SH : Nat → Nat × Nat) (FI : Nat → Nat → Int32) (FL : Nat → Nat → Int64) (FR : Nat → Nat → Option Nat), pk n SH FR → ∀ d, pw pj_V sk base (N - 1) d none 9 0 [(0, .ref (base + 119)), (1, va_rf (h_rf base (a1))), (2, .int (a2))] [] (n, sl, SH, FI, FL, FR) (MX0_putChain a1 a2 n sl SH FI FL FR)) (hK82 : ∀ (l5o : Option Nat) (l3o : Option Nat) (l4o : Option Nat) (n sl : Nat) (SH : Nat → Nat × Nat) (FI : Nat → Nat → Int32) (FL : Nat → Nat → Int64) (FR : Nat → Nat → Option Nat), pk n SH FR → pw pj_V sk base N d none 9 82 [(0, .ref (base + 119)), (1, va_rf (h_rf base (a1))), (2, .int (a2)), (3, va_rf (h_rf base (l3o))), (4, va_rf (h_rf base (l4o))), (5, va_rf (h_rf base (l5o)))] [] (n, sl, SH, FI, FL, FR) (K82 l5o n sl SH FI FL FR)) : pw pj_V sk base N d none 9 124 [(0, .ref (base + 119)), (1, va_rf (h_rf base (a1))), (2, .int (a2)), (3, va_rf (h_rf base (l3o))), (4, va_rf (h_rf base (l4o))), (5, va_rf (h_rf base (l5o)))] [] (n, sl, SH, FI, FL, FR) (RX0_putChain_124 K82 MX0_putNode MX0_putChoice MX0_putChain a1 a2 l5o n sl SH FI FL FR) := by
  unfold RX0_putChain_124
  refine pw_aloadn (aX0_putChain 58 rfl) rfl ?_
  refine pw_aload (aX0_putChain 59 rfl) rfl ?_
  refine pw_iloadn (aX0_putChain 60 rfl) rfl ?_
  refine pw_iconst (v := (1 : Int32)) (aX0_putChain 61 rfl) rfl ?_
  refine pw_iadd (aX0_putChain 62 rfl) ?_
  refine pw_callV (Bs := [va_rf (h_rf base (l5o)), .int ((a2) + ((1 : Int32)))]) (L2 := [(0, .ref (base + 119)), (1, va_rf (h_rf base (l5o))), (2, .int ((a2) + ((1 : Int32))))]) (rest := []) (aX0_putChain 63 rfl) um_RX0_85 ujX0_putNode wc_RX0_85.2.2.2.2 (by decide) (by decide) rfl (by first | rfl | simp [lv_args, va_cat, va_ci, va_cl, va_cr, va_cn]) (fun d => pw_mono (hMX0_putNode (l5o) ((a2) + ((1 : Int32))) n sl SH FI FL FR hok d) (by omega)) (fun v0 n0 sl0 SH0 FI0 FL0 FR0 hok0 _ => ?_)
  show pw _ _ _ _ _ _ _ 133 _ [] _ _
  refine pw_aloadn (aX0_putChain 64 rfl) rfl ?_
  refine pw_aload (aX0_putChain 65 rfl) rfl ?_
  refine pw_get (o := l5o) (v := fun c2 => .int (FI0 c2 2)) (aX0_putChain 66 rfl) uf_RX0_139 un_RX0_139 (fun _ => rfl) (fun c2 hc2 _ tc2 => ?_)
  refine pw_cf (pw_callS (As := [.int (FI0 c2 2)]) (rest := [.ref (base + 119)]) (aX0_putChain 67 rfl) um_RX0_144 ujX4_operationOf wc_RX0_144.2.2.2.2 (by decide) rfl rfl (fun d => rX4_operationOf hkb (FI0 c2 2) n0 sl0 SH0 FI0 FL0 FR0 hok0) (fun v2 n2 sl2 SH2 FI2 FL2 FR2 _ hC => ?_))
  obtain ⟨rfl, hC⟩ := hC; cases hC
  show pw _ _ _ _ _ _ _ 142 _ [.int (fX4_operationOf (FI0 c2 2) SH0 FI0 FL0 FR0), .ref (base + 119)] _ _
  refine pw_callV (Bs := [.int (fX4_operationOf (FI0 c2 2) SH0 FI0 FL0 FR0)]) (rest := []) (aX0_putChain 68 rfl) um_RX0_62 ujX0_put wc_RX0_62.2.2.2.2 (by decide) (by decide) rfl rfl (fun d => rX0_put hkb (fX4_operationOf (FI0 c2 2) SH0 FI0 FL0 FR0) n0 sl0 SH0 FI0 FL0 FR0 hok0) (fun v3 n3 sl3 SH3 FI3 FL3 FR3 hok3 _ => ?_)
  show pw _ _ _ _ _ _ _ 145 _ [] _ _
  exact pw_Li (L2 := [(0, .ref (base + 119)), (1, va_rf (h_rf base (a1))), (2, .int (a2)), (3, va_rf (h_rf base (l3o))), (4, va_rf (h_rf base (l4o))), (5, va_rf (h_rf base (l5o)))]) [0, 1, 2, 3, 4, 5] (rX0_putChain_145 hkb MX0_putNode MX0_putChoice MX0_putChain a1 a2 (l5o) (l3o) (l4o) n3 sl3 SH3 FI3 FL3 FR3 hok3 (fun a1 a2 n sl SH FI FL FR ok d => pw_mono (hMX0_putNode a1 a2 n sl SH FI FL FR ok d) (by omega)) (fun a1 a2 n sl SH FI FL FR ok d => pw_mono (hMX0_putChoice a1 a2 n sl SH FI FL FR ok d) (by omega)) (fun a1 a2 n sl SH FI FL FR ok d => pw_mono (hMX0_putChain a1 a2 n sl SH FI FL FR ok d) (by omega)) hK82) ⟨rfl, rfl, rfl, rfl, rfl, rfl, trivial⟩
set_option maxHeartbeats 4000000 in
set_option maxRecDepth 100000 in
theorem bX0_putChain_82 {sk : xK} {base N d : Nat} {K82 : Option Nat → Nat → Nat → (Nat → Nat × Nat) → (Nat → Nat → Int32) → (Nat → Nat → Int64) → (Nat → Nat → Option Nat) → Unit → hS → Prop} (hkb : x_kb sk base) (MX0_putNode : Option Nat → Int32 → Nat → Nat → (Nat → Nat × Nat) → (Nat → Nat → Int32) → (Nat → Nat → Int64) → (Nat → Nat → Option Nat) → Unit → hS → Prop) (MX0_putChoice : Option Nat → Int32 → Nat → Nat → (Nat → Nat × Nat) → (Nat → Nat → Int32) → (Nat → Nat → Int64) → (Nat → Nat → Option Nat) → Unit → hS → Prop) (MX0_putChain : Option Nat → Int32 → Nat → Nat → (Nat → Nat × Nat) → (Nat → Nat → Int32) → (Nat → Nat → Int64) → (Nat → Nat → Option Nat) → Unit → hS → Prop) (a1 : Option Nat) (a2 : Int32) (l5o : Option Nat) (l3o : Option Nat) (l4o : Option Nat) (n sl : Nat) (SH : Nat → Nat × Nat) (FI : Nat → Nat → Int32) (FL : Nat → Nat → Int64) (FR : Nat → Nat → Option Nat) (hok : pk n SH FR) (hMX0_putNode : ∀ (a1 : Option Nat) (a2 : Int32) (n sl : Nat) (SH : Nat → Nat × Nat) (FI : Nat → Nat → Int32) (FL : Nat → Nat → Int64) (FR : Nat → Nat → Option Nat), pk n SH FR → ∀ d, pw pj_V sk base (N + 1 - 1) d none 6 0 [(0, .ref (base + 119)), (1, va_rf (h_rf base (a1))), (2, .int (a2))] [] (n, sl, SH, FI, FL, FR) (MX0_putNode a1 a2 n sl SH FI FL FR)) (hMX0_putChoice : ∀ (a1 : Option Nat) (a2 : Int32) (n sl : Nat) (SH : Nat → Nat × Nat) (FI : Nat → Nat → Int32) (FL : Nat → Nat → Int64) (FR : Nat → Nat → Option Nat), pk n SH FR → ∀ d, pw pj_V sk base (N + 1 - 1) d none 8 0 [(0, .ref (base + 119)), (1, va_rf (h_rf base (a1))), (2, .int (a2))] [] (n, sl, SH, FI, FL, FR) (MX0_putChoice a1 a2 n sl SH FI FL FR)) (hMX0_putChain : ∀ (a1 : Option Nat) (a2 : Int32) (n sl : Nat) (SH : Nat → Nat × Nat) (FI : Nat → Nat → Int32) (FL : Nat → Nat → Int64) (FR : Nat → Nat → Option Nat), pk n SH FR → ∀ d, pw pj_V sk base (N + 1 - 1) d none 9 0 [(0, .ref (base + 119)), (1, va_rf (h_rf base (a1))), (2, .int (a2))] [] (n, sl, SH, FI, FL, FR) (MX0_putChain a1 a2 n sl SH FI FL FR)) (hK82 : ∀ (l5o : Option Nat) (l3o : Option Nat) (l4o : Option Nat) (n sl : Nat) (SH : Nat → Nat × Nat) (FI : Nat → Nat → Int32) (FL : Nat → Nat → Int64) (FR : Nat → Nat → Option Nat), pk n SH FR → pw pj_V sk base N d none 9 82 [(0, .ref (base + 119)), (1, va_rf (h_rf base (a1))), (2, .int (a2)), (3, va_rf (h_rf base (l3o))), (4, va_rf (h_rf base (l4o))), (5, va_rf (h_rf base (l5o)))] [] (n, sl, SH, FI, FL, FR) (K82 l5o n sl SH FI FL FR)) : pw pj_V sk base (N + 1) d none 9 82 [(0, .ref (base + 119)), (1, va_rf (h_rf base (a1))), (2, .int (a2)), (3, va_rf (h_rf base (l3o))), (4, va_rf (h_rf base (l4o))), (5, va_rf (h_rf base (l5o)))] [] (n, sl, SH, FI, FL, FR) (BX0_putChain_82 K82 MX0_putNode MX0_putChoice MX0_putChain a1 a2 l5o n sl SH FI FL FR) := by
  unfold BX0_putChain_82
  refine pd_aload (aX0_putChain 40 rfl) rfl ?_
  refine pw_inull (o := l5o) (tgt := 155) (aX0_putChain 41 rfl) (by decide) (fun b0 => ?_) (fun b0 => ?_)
  · skip
    exact pw_vret (aX0_putChain 73 rfl) hok
  · skip
    refine pw_aload (aX0_putChain 42 rfl) rfl ?_
    refine pw_get (o := l5o) (v := fun c2 => .int (FI c2 2)) (aX0_putChain 43 rfl) uf_RX0_139 un_RX0_139 (fun _ => rfl) (fun c2 hc2 _ tc2 => ?_)
    refine pw_bipush (v := (43 : Int32)) (aX0_putChain 44 rfl) rfl ?_
    refine pw_icne (tgt := 124) (aX0_putChain 45 rfl) (by decide) (fun b2 => ?_) (fun b2 => ?_)
    · skip
      refine pw_aload (aX0_putChain 46 rfl) rfl ?_
      refine pw_get (o := l5o) (v := fun c4 => .int (FI c4 0)) (aX0_putChain 47 rfl) uf_RX0_96 un_RX0_96 (fun _ => rfl) (fun c4 hc4 _ tc4 => ?_)
      refine pw_iconst (v := (5 : Int32)) (aX0_putChain 48 rfl) rfl ?_
      refine pw_icne (tgt := 124) (aX0_putChain 49 rfl) (by decide) (fun b4 => ?_) (fun b4 => ?_)
      · skip
        refine pw_aloadn (aX0_putChain 50 rfl) rfl ?_
        refine pw_bipush (v := (35 : Int32)) (aX0_putChain 51 rfl) rfl ?_
        refine pw_callV (Bs := [.int ((35 : Int32))]) (rest := []) (aX0_putChain 52 rfl) um_RX0_62 ujX0_put wc_RX0_62.2.2.2.2 (by decide) (by decide) rfl rfl (fun d => rX0_put hkb ((35 : Int32)) n sl SH FI FL FR hok) (fun v5 n5 sl5 SH5 FI5 FL5 FR5 hok5 _ => ?_)
        show pw _ _ _ _ _ _ _ 112 _ [] _ _
        refine pw_aloadn (aX0_putChain 53 rfl) rfl ?_
        refine pw_aload (aX0_putChain 54 rfl) rfl ?_
        refine pw_get (o := l5o) (v := fun c7 => .long (FL5 c7 1)) (aX0_putChain 55 rfl) uf_RX0_99 un_RX0_99 (fun _ => rfl) (fun c7 hc7 _ tc7 => ?_)
        refine pw_callV (Bs := [.long (FL5 c7 1)]) (rest := []) (aX0_putChain 56 rfl) um_RX0_66 ujX0_putLeb wc_RX0_66.2.2.2.2 (by decide) (by decide) rfl rfl (fun d => rX0_putLeb hkb (FL5 c7 1) n5 sl5 SH5 FI5 FL5 FR5 hok5) (fun v7 n7 sl7 SH7 FI7 FL7 FR7 hok7 _ => ?_)
        show pw _ _ _ _ _ _ _ 121 _ [] _ _
        refine pw_goto (tgt := 145) (aX0_putChain 57 rfl) (by decide) ?_
        exact pw_Li (L2 := [(0, .ref (base + 119)), (1, va_rf (h_rf base (a1))), (2, .int (a2)), (3, va_rf (h_rf base (l3o))), (4, va_rf (h_rf base (l4o))), (5, va_rf (h_rf base (l5o)))]) [0, 1, 2, 3, 4, 5] (rX0_putChain_145 hkb MX0_putNode MX0_putChoice MX0_putChain a1 a2 (l5o) (l3o) (l4o) n7 sl7 SH7 FI7 FL7 FR7 hok7 (fun a1 a2 n sl SH FI FL FR ok d => pw_mono (hMX0_putNode a1 a2 n sl SH FI FL FR ok d) (by omega)) (fun a1 a2 n sl SH FI FL FR ok d => pw_mono (hMX0_putChoice a1 a2 n sl SH FI FL FR ok d) (by omega)) (fun a1 a2 n sl SH FI FL FR ok d => pw_mono (hMX0_putChain a1 a2 n sl SH FI FL FR ok d) (by omega)) hK82) ⟨rfl, rfl, rfl, rfl, rfl, rfl, trivial⟩
      · skip
        exact pw_Li (L2 := [(0, .ref (base + 119)), (1, va_rf (h_rf base (a1))), (2, .int (a2)), (3, va_rf (h_rf base (l3o))), (4, va_rf (h_rf base (l4o))), (5, va_rf (h_rf base (l5o)))]) [0, 1, 2, 3, 4, 5] (rX0_putChain_124 hkb MX0_putNode MX0_putChoice MX0_putChain a1 a2 (l5o) (l3o) (l4o) n sl SH FI FL FR hok (fun a1 a2 n sl SH FI FL FR ok d => pw_mono (hMX0_putNode a1 a2 n sl SH FI FL FR ok d) (by omega)) (fun a1 a2 n sl SH FI FL FR ok d => pw_mono (hMX0_putChoice a1 a2 n sl SH FI FL FR ok d) (by omega)) (fun a1 a2 n sl SH FI FL FR ok d => pw_mono (hMX0_putChain a1 a2 n sl SH FI FL FR ok d) (by omega)) hK82) ⟨rfl, rfl, rfl, rfl, rfl, rfl, trivial⟩
    · skip
      exact pw_Li (L2 := [(0, .ref (base + 119)), (1, va_rf (h_rf base (a1))), (2, .int (a2)), (3, va_rf (h_rf base (l3o))), (4, va_rf (h_rf base (l4o))), (5, va_rf (h_rf base (l5o)))]) [0, 1, 2, 3, 4, 5] (rX0_putChain_124 hkb MX0_putNode MX0_putChoice MX0_putChain a1 a2 (l5o) (l3o) (l4o) n sl SH FI FL FR hok (fun a1 a2 n sl SH FI FL FR ok d => pw_mono (hMX0_putNode a1 a2 n sl SH FI FL FR ok d) (by omega)) (fun a1 a2 n sl SH FI FL FR ok d => pw_mono (hMX0_putChoice a1 a2 n sl SH FI FL FR ok d) (by omega)) (fun a1 a2 n sl SH FI FL FR ok d => pw_mono (hMX0_putChain a1 a2 n sl SH FI FL FR ok d) (by omega)) hK82) ⟨rfl, rfl, rfl, rfl, rfl, rfl, trivial⟩
theorem gX0_putChain_82 {sk : xK} {base d : Nat}  (hkb : x_kb sk base) (MX0_putNode : Option Nat → Int32 → Nat → Nat → (Nat → Nat × Nat) → (Nat → Nat → Int32) → (Nat → Nat → Int64) → (Nat → Nat → Option Nat) → Unit → hS → Prop) (MX0_putChoice : Option Nat → Int32 → Nat → Nat → (Nat → Nat × Nat) → (Nat → Nat → Int32) → (Nat → Nat → Int64) → (Nat → Nat → Option Nat) → Unit → hS → Prop) (MX0_putChain : Option Nat → Int32 → Nat → Nat → (Nat → Nat × Nat) → (Nat → Nat → Int32) → (Nat → Nat → Int64) → (Nat → Nat → Option Nat) → Unit → hS → Prop) (a1 : Option Nat) (a2 : Int32) (N : Nat) : (∀ (a1 : Option Nat) (a2 : Int32) (n sl : Nat) (SH : Nat → Nat × Nat) (FI : Nat → Nat → Int32) (FL : Nat → Nat → Int64) (FR : Nat → Nat → Option Nat), pk n SH FR → ∀ d, pw pj_V sk base (N - 1) d none 6 0 [(0, .ref (base + 119)), (1, va_rf (h_rf base (a1))), (2, .int (a2))] [] (n, sl, SH, FI, FL, FR) (MX0_putNode a1 a2 n sl SH FI FL FR)) → (∀ (a1 : Option Nat) (a2 : Int32) (n sl : Nat) (SH : Nat → Nat × Nat) (FI : Nat → Nat → Int32) (FL : Nat → Nat → Int64) (FR : Nat → Nat → Option Nat), pk n SH FR → ∀ d, pw pj_V sk base (N - 1) d none 8 0 [(0, .ref (base + 119)), (1, va_rf (h_rf base (a1))), (2, .int (a2))] [] (n, sl, SH, FI, FL, FR) (MX0_putChoice a1 a2 n sl SH FI FL FR)) → (∀ (a1 : Option Nat) (a2 : Int32) (n sl : Nat) (SH : Nat → Nat × Nat) (FI : Nat → Nat → Int32) (FL : Nat → Nat → Int64) (FR : Nat → Nat → Option Nat), pk n SH FR → ∀ d, pw pj_V sk base (N - 1) d none 9 0 [(0, .ref (base + 119)), (1, va_rf (h_rf base (a1))), (2, .int (a2))] [] (n, sl, SH, FI, FL, FR) (MX0_putChain a1 a2 n sl SH FI FL FR)) →  ∀ (l5o : Option Nat) (l3o : Option Nat) (l4o : Option Nat) (n sl : Nat) (SH : Nat → Nat × Nat) (FI : Nat → Nat → Int32) (FL : Nat → Nat → Int64) (FR : Nat → Nat → Option Nat), pk n SH FR → pw pj_V sk base N d none 9 82 [(0, .ref (base + 119)), (1, va_rf (h_rf base (a1))), (2, .int (a2)), (3, va_rf (h_rf base (l3o))), (4, va_rf (h_rf base (l4o))), (5, va_rf (h_rf base (l5o)))] [] (n, sl, SH, FI, FL, FR) (GX0_putChain_82  MX0_putNode MX0_putChoice MX0_putChain a1 a2 (N + 1) l5o n sl SH FI FL FR) := by
  induction N with
  | zero => intros; exact pw_0
  | succ N ih => intro hMX0_putNode hMX0_putChoice hMX0_putChain  l5o l3o l4o n sl SH FI FL FR hok; exact bX0_putChain_82 hkb MX0_putNode MX0_putChoice MX0_putChain a1 a2 l5o l3o l4o n sl SH FI FL FR hok hMX0_putNode hMX0_putChoice hMX0_putChain (ih (fun a1 a2 n sl SH FI FL FR ok d => pw_mono (hMX0_putNode a1 a2 n sl SH FI FL FR ok d) (by omega)) (fun a1 a2 n sl SH FI FL FR ok d => pw_mono (hMX0_putChoice a1 a2 n sl SH FI FL FR ok d) (by omega)) (fun a1 a2 n sl SH FI FL FR ok d => pw_mono (hMX0_putChain a1 a2 n sl SH FI FL FR ok d) (by omega)) )
theorem rX0_putChain_82 {sk : xK} {base N d : Nat}  (hkb : x_kb sk base) (MX0_putNode : Option Nat → Int32 → Nat → Nat → (Nat → Nat × Nat) → (Nat → Nat → Int32) → (Nat → Nat → Int64) → (Nat → Nat → Option Nat) → Unit → hS → Prop) (MX0_putChoice : Option Nat → Int32 → Nat → Nat → (Nat → Nat × Nat) → (Nat → Nat → Int32) → (Nat → Nat → Int64) → (Nat → Nat → Option Nat) → Unit → hS → Prop) (MX0_putChain : Option Nat → Int32 → Nat → Nat → (Nat → Nat × Nat) → (Nat → Nat → Int32) → (Nat → Nat → Int64) → (Nat → Nat → Option Nat) → Unit → hS → Prop) (a1 : Option Nat) (a2 : Int32) (l5o : Option Nat) (l3o : Option Nat) (l4o : Option Nat) (n sl : Nat) (SH : Nat → Nat × Nat) (FI : Nat → Nat → Int32) (FL : Nat → Nat → Int64) (FR : Nat → Nat → Option Nat) (hok : pk n SH FR) (hMX0_putNode : ∀ (a1 : Option Nat) (a2 : Int32) (n sl : Nat) (SH : Nat → Nat × Nat) (FI : Nat → Nat → Int32) (FL : Nat → Nat → Int64) (FR : Nat → Nat → Option Nat), pk n SH FR → ∀ d, pw pj_V sk base (N - 1) d none 6 0 [(0, .ref (base + 119)), (1, va_rf (h_rf base (a1))), (2, .int (a2))] [] (n, sl, SH, FI, FL, FR) (MX0_putNode a1 a2 n sl SH FI FL FR)) (hMX0_putChoice : ∀ (a1 : Option Nat) (a2 : Int32) (n sl : Nat) (SH : Nat → Nat × Nat) (FI : Nat → Nat → Int32) (FL : Nat → Nat → Int64) (FR : Nat → Nat → Option Nat), pk n SH FR → ∀ d, pw pj_V sk base (N - 1) d none 8 0 [(0, .ref (base + 119)), (1, va_rf (h_rf base (a1))), (2, .int (a2))] [] (n, sl, SH, FI, FL, FR) (MX0_putChoice a1 a2 n sl SH FI FL FR)) (hMX0_putChain : ∀ (a1 : Option Nat) (a2 : Int32) (n sl : Nat) (SH : Nat → Nat × Nat) (FI : Nat → Nat → Int32) (FL : Nat → Nat → Int64) (FR : Nat → Nat → Option Nat), pk n SH FR → ∀ d, pw pj_V sk base (N - 1) d none 9 0 [(0, .ref (base + 119)), (1, va_rf (h_rf base (a1))), (2, .int (a2))] [] (n, sl, SH, FI, FL, FR) (MX0_putChain a1 a2 n sl SH FI FL FR))  : pw pj_V sk base N d none 9 82 [(0, .ref (base + 119)), (1, va_rf (h_rf base (a1))), (2, .int (a2)), (3, va_rf (h_rf base (l3o))), (4, va_rf (h_rf base (l4o))), (5, va_rf (h_rf base (l5o)))] [] (n, sl, SH, FI, FL, FR) (RX0_putChain_82  MX0_putNode MX0_putChoice MX0_putChain a1 a2 l5o n sl SH FI FL FR) := pw_cons (gX0_putChain_82 hkb MX0_putNode MX0_putChoice MX0_putChain a1 a2 N hMX0_putNode hMX0_putChoice hMX0_putChain  l5o l3o l4o n sl SH FI FL FR hok) (fun _ _ h => ⟨_, h⟩)
set_option maxHeartbeats 4000000 in
set_option maxRecDepth 100000 in
theorem rX0_putChain_78 {sk : xK} {base N d : Nat}  (hkb : x_kb sk base) (MX0_putNode : Option Nat → Int32 → Nat → Nat → (Nat → Nat × Nat) → (Nat → Nat → Int32) → (Nat → Nat → Int64) → (Nat → Nat → Option Nat) → Unit → hS → Prop) (MX0_putChoice : Option Nat → Int32 → Nat → Nat → (Nat → Nat × Nat) → (Nat → Nat → Int32) → (Nat → Nat → Int64) → (Nat → Nat → Option Nat) → Unit → hS → Prop) (MX0_putChain : Option Nat → Int32 → Nat → Nat → (Nat → Nat × Nat) → (Nat → Nat → Int32) → (Nat → Nat → Int64) → (Nat → Nat → Option Nat) → Unit → hS → Prop) (a1 : Option Nat) (a2 : Int32) (l4o : Option Nat) (l3o : Option Nat) (n sl : Nat) (SH : Nat → Nat × Nat) (FI : Nat → Nat → Int32) (FL : Nat → Nat → Int64) (FR : Nat → Nat → Option Nat) (hok : pk n SH FR) (hMX0_putNode : ∀ (a1 : Option Nat) (a2 : Int32) (n sl : Nat) (SH : Nat → Nat × Nat) (FI : Nat → Nat → Int32) (FL : Nat → Nat → Int64) (FR : Nat → Nat → Option Nat), pk n SH FR → ∀ d, pw pj_V sk base (N - 1) d none 6 0 [(0, .ref (base + 119)), (1, va_rf (h_rf base (a1))), (2, .int (a2))] [] (n, sl, SH, FI, FL, FR) (MX0_putNode a1 a2 n sl SH FI FL FR)) (hMX0_putChoice : ∀ (a1 : Option Nat) (a2 : Int32) (n sl : Nat) (SH : Nat → Nat × Nat) (FI : Nat → Nat → Int32) (FL : Nat → Nat → Int64) (FR : Nat → Nat → Option Nat), pk n SH FR → ∀ d, pw pj_V sk base (N - 1) d none 8 0 [(0, .ref (base + 119)), (1, va_rf (h_rf base (a1))), (2, .int (a2))] [] (n, sl, SH, FI, FL, FR) (MX0_putChoice a1 a2 n sl SH FI FL FR)) (hMX0_putChain : ∀ (a1 : Option Nat) (a2 : Int32) (n sl : Nat) (SH : Nat → Nat × Nat) (FI : Nat → Nat → Int32) (FL : Nat → Nat → Int64) (FR : Nat → Nat → Option Nat), pk n SH FR → ∀ d, pw pj_V sk base (N - 1) d none 9 0 [(0, .ref (base + 119)), (1, va_rf (h_rf base (a1))), (2, .int (a2))] [] (n, sl, SH, FI, FL, FR) (MX0_putChain a1 a2 n sl SH FI FL FR))  : pw pj_V sk base N d none 9 78 [(0, .ref (base + 119)), (1, va_rf (h_rf base (a1))), (2, .int (a2)), (3, va_rf (h_rf base (l3o))), (4, va_rf (h_rf base (l4o)))] [] (n, sl, SH, FI, FL, FR) (RX0_putChain_78  MX0_putNode MX0_putChoice MX0_putChain a1 a2 l4o n sl SH FI FL FR) := by
  unfold RX0_putChain_78
  refine pw_aload (aX0_putChain 38 rfl) rfl ?_
  refine pw_astore (L2 := [(5, va_rf (h_rf base (l4o))), (0, .ref (base + 119)), (1, va_rf (h_rf base (a1))), (2, .int (a2)), (3, va_rf (h_rf base (l3o))), (4, va_rf (h_rf base (l4o)))]) (aX0_putChain 39 rfl) (by first | rfl | (simp [x_s1, x_s2, va_cat, va_ci, va_cl, va_cr, va_cn]; done) | (simp [x_s1, x_s2, va_cat, va_ci, va_cl, va_cr, va_cn]; decide)) ?_
  exact pw_Li (L2 := [(0, .ref (base + 119)), (1, va_rf (h_rf base (a1))), (2, .int (a2)), (3, va_rf (h_rf base (l3o))), (4, va_rf (h_rf base (l4o))), (5, va_rf (h_rf base (l4o)))]) [5, 0, 1, 2, 3, 4] (rX0_putChain_82 hkb MX0_putNode MX0_putChoice MX0_putChain a1 a2 (l4o) (l3o) (l4o) n sl SH FI FL FR hok (fun a1 a2 n sl SH FI FL FR ok d => pw_mono (hMX0_putNode a1 a2 n sl SH FI FL FR ok d) (by omega)) (fun a1 a2 n sl SH FI FL FR ok d => pw_mono (hMX0_putChoice a1 a2 n sl SH FI FL FR ok d) (by omega)) (fun a1 a2 n sl SH FI FL FR ok d => pw_mono (hMX0_putChain a1 a2 n sl SH FI FL FR ok d) (by omega)) ) ⟨rfl, rfl, rfl, rfl, rfl, rfl, trivial⟩
set_option maxHeartbeats 4000000 in
set_option maxRecDepth 100000 in
theorem rX0_putChain_70 {sk : xK} {base N d : Nat}  (hkb : x_kb sk base) (MX0_putNode : Option Nat → Int32 → Nat → Nat → (Nat → Nat × Nat) → (Nat → Nat → Int32) → (Nat → Nat → Int64) → (Nat → Nat → Option Nat) → Unit → hS → Prop) (MX0_putChoice : Option Nat → Int32 → Nat → Nat → (Nat → Nat × Nat) → (Nat → Nat → Int32) → (Nat → Nat → Int64) → (Nat → Nat → Option Nat) → Unit → hS → Prop) (MX0_putChain : Option Nat → Int32 → Nat → Nat → (Nat → Nat × Nat) → (Nat → Nat → Int32) → (Nat → Nat → Int64) → (Nat → Nat → Option Nat) → Unit → hS → Prop) (a1 : Option Nat) (a2 : Int32) (l3o : Option Nat) (l4o : Option Nat)  (n sl : Nat) (SH : Nat → Nat × Nat) (FI : Nat → Nat → Int32) (FL : Nat → Nat → Int64) (FR : Nat → Nat → Option Nat) (hok : pk n SH FR) (hMX0_putNode : ∀ (a1 : Option Nat) (a2 : Int32) (n sl : Nat) (SH : Nat → Nat × Nat) (FI : Nat → Nat → Int32) (FL : Nat → Nat → Int64) (FR : Nat → Nat → Option Nat), pk n SH FR → ∀ d, pw pj_V sk base (N - 1) d none 6 0 [(0, .ref (base + 119)), (1, va_rf (h_rf base (a1))), (2, .int (a2))] [] (n, sl, SH, FI, FL, FR) (MX0_putNode a1 a2 n sl SH FI FL FR)) (hMX0_putChoice : ∀ (a1 : Option Nat) (a2 : Int32) (n sl : Nat) (SH : Nat → Nat × Nat) (FI : Nat → Nat → Int32) (FL : Nat → Nat → Int64) (FR : Nat → Nat → Option Nat), pk n SH FR → ∀ d, pw pj_V sk base (N - 1) d none 8 0 [(0, .ref (base + 119)), (1, va_rf (h_rf base (a1))), (2, .int (a2))] [] (n, sl, SH, FI, FL, FR) (MX0_putChoice a1 a2 n sl SH FI FL FR)) (hMX0_putChain : ∀ (a1 : Option Nat) (a2 : Int32) (n sl : Nat) (SH : Nat → Nat × Nat) (FI : Nat → Nat → Int32) (FL : Nat → Nat → Int64) (FR : Nat → Nat → Option Nat), pk n SH FR → ∀ d, pw pj_V sk base (N - 1) d none 9 0 [(0, .ref (base + 119)), (1, va_rf (h_rf base (a1))), (2, .int (a2))] [] (n, sl, SH, FI, FL, FR) (MX0_putChain a1 a2 n sl SH FI FL FR))  : pw pj_V sk base N d none 9 70 [(0, .ref (base + 119)), (1, va_rf (h_rf base (a1))), (2, .int (a2)), (3, va_rf (h_rf base (l3o))), (4, va_rf (h_rf base (l4o)))] [] (n, sl, SH, FI, FL, FR) (RX0_putChain_70  MX0_putNode MX0_putChoice MX0_putChain a1 a2 l3o l4o n sl SH FI FL FR) := by
  unfold RX0_putChain_70
  refine pw_aloadn (aX0_putChain 32 rfl) rfl ?_
  refine pw_aloadn (aX0_putChain 33 rfl) rfl ?_
  refine pw_iloadn (aX0_putChain 34 rfl) rfl ?_
  refine pw_iconst (v := (1 : Int32)) (aX0_putChain 35 rfl) rfl ?_
  refine pw_iadd (aX0_putChain 36 rfl) ?_
  refine pw_callV (Bs := [va_rf (h_rf base (l3o)), .int ((a2) + ((1 : Int32)))]) (L2 := [(0, .ref (base + 119)), (1, va_rf (h_rf base (l3o))), (2, .int ((a2) + ((1 : Int32))))]) (rest := []) (aX0_putChain 37 rfl) um_RX0_85 ujX0_putNode wc_RX0_85.2.2.2.2 (by decide) (by decide) rfl (by first | rfl | simp [lv_args, va_cat, va_ci, va_cl, va_cr, va_cn]) (fun d => pw_mono (hMX0_putNode (l3o) ((a2) + ((1 : Int32))) n sl SH FI FL FR hok d) (by omega)) (fun v0 n0 sl0 SH0 FI0 FL0 FR0 hok0 _ => ?_)
  show pw _ _ _ _ _ _ _ 78 _ [] _ _
  exact pw_Li (L2 := [(0, .ref (base + 119)), (1, va_rf (h_rf base (a1))), (2, .int (a2)), (3, va_rf (h_rf base (l3o))), (4, va_rf (h_rf base (l4o)))]) [0, 1, 2, 3, 4] (rX0_putChain_78 hkb MX0_putNode MX0_putChoice MX0_putChain a1 a2 (l4o) (l3o) n0 sl0 SH0 FI0 FL0 FR0 hok0 (fun a1 a2 n sl SH FI FL FR ok d => pw_mono (hMX0_putNode a1 a2 n sl SH FI FL FR ok d) (by omega)) (fun a1 a2 n sl SH FI FL FR ok d => pw_mono (hMX0_putChoice a1 a2 n sl SH FI FL FR ok d) (by omega)) (fun a1 a2 n sl SH FI FL FR ok d => pw_mono (hMX0_putChain a1 a2 n sl SH FI FL FR ok d) (by omega)) ) ⟨rfl, rfl, rfl, rfl, rfl, trivial⟩
set_option maxHeartbeats 4000000 in
set_option maxRecDepth 100000 in
theorem rX0_putChain_57 {sk : xK} {base N d : Nat}  (hkb : x_kb sk base) (MX0_putNode : Option Nat → Int32 → Nat → Nat → (Nat → Nat × Nat) → (Nat → Nat → Int32) → (Nat → Nat → Int64) → (Nat → Nat → Option Nat) → Unit → hS → Prop) (MX0_putChoice : Option Nat → Int32 → Nat → Nat → (Nat → Nat × Nat) → (Nat → Nat → Int32) → (Nat → Nat → Int64) → (Nat → Nat → Option Nat) → Unit → hS → Prop) (MX0_putChain : Option Nat → Int32 → Nat → Nat → (Nat → Nat × Nat) → (Nat → Nat → Int32) → (Nat → Nat → Int64) → (Nat → Nat → Option Nat) → Unit → hS → Prop) (a1 : Option Nat) (a2 : Int32) (l4o : Option Nat) (s0l : Int64) (s1o : Option Nat) (l3o : Option Nat) (n sl : Nat) (SH : Nat → Nat × Nat) (FI : Nat → Nat → Int32) (FL : Nat → Nat → Int64) (FR : Nat → Nat → Option Nat) (hok : pk n SH FR) (hMX0_putNode : ∀ (a1 : Option Nat) (a2 : Int32) (n sl : Nat) (SH : Nat → Nat × Nat) (FI : Nat → Nat → Int32) (FL : Nat → Nat → Int64) (FR : Nat → Nat → Option Nat), pk n SH FR → ∀ d, pw pj_V sk base (N - 1) d none 6 0 [(0, .ref (base + 119)), (1, va_rf (h_rf base (a1))), (2, .int (a2))] [] (n, sl, SH, FI, FL, FR) (MX0_putNode a1 a2 n sl SH FI FL FR)) (hMX0_putChoice : ∀ (a1 : Option Nat) (a2 : Int32) (n sl : Nat) (SH : Nat → Nat × Nat) (FI : Nat → Nat → Int32) (FL : Nat → Nat → Int64) (FR : Nat → Nat → Option Nat), pk n SH FR → ∀ d, pw pj_V sk base (N - 1) d none 8 0 [(0, .ref (base + 119)), (1, va_rf (h_rf base (a1))), (2, .int (a2))] [] (n, sl, SH, FI, FL, FR) (MX0_putChoice a1 a2 n sl SH FI FL FR)) (hMX0_putChain : ∀ (a1 : Option Nat) (a2 : Int32) (n sl : Nat) (SH : Nat → Nat × Nat) (FI : Nat → Nat → Int32) (FL : Nat → Nat → Int64) (FR : Nat → Nat → Option Nat), pk n SH FR → ∀ d, pw pj_V sk base (N - 1) d none 9 0 [(0, .ref (base + 119)), (1, va_rf (h_rf base (a1))), (2, .int (a2))] [] (n, sl, SH, FI, FL, FR) (MX0_putChain a1 a2 n sl SH FI FL FR))  : pw pj_V sk base N d none 9 57 [(0, .ref (base + 119)), (1, va_rf (h_rf base (a1))), (2, .int (a2)), (3, va_rf (h_rf base (l3o))), (4, va_rf (h_rf base (l4o)))] [.long (s0l), va_rf (h_rf base (s1o)), .ref (base + 119)] (n, sl, SH, FI, FL, FR) (RX0_putChain_57  MX0_putNode MX0_putChoice MX0_putChain a1 a2 l4o s0l s1o n sl SH FI FL FR) := by
  unfold RX0_putChain_57
  refine pw_callV (Bs := [va_rf (h_rf base (s1o)), .long (s0l)]) (L2 := [(0, .ref (base + 119)), (1, va_rf (h_rf base (s1o))), (2, .long (s0l))]) (rest := []) (aX0_putChain 27 rfl) um_RX0_103 ujX0_putBased wc_RX0_103.2.2.2.2 (by decide) (by decide) rfl (by first | rfl | simp [lv_args, va_cat, va_ci, va_cl, va_cr, va_cn]) (fun d => rX0_putBased hkb (s1o) (s0l) n sl SH FI FL FR hok) (fun v0 n0 sl0 SH0 FI0 FL0 FR0 hok0 _ => ?_)
  show pw _ _ _ _ _ _ _ 60 _ [] _ _
  refine pw_aload (aX0_putChain 28 rfl) rfl ?_
  refine pw_get (o := l4o) (v := fun c2 => va_rf (h_rf base (FR0 c2 6))) (aX0_putChain 29 rfl) uf_RX0_130 un_RX0_130 (fun _ => rfl) (fun c2 hc2 _ tc2 => ?_)
  refine pw_astore (L2 := [(4, va_rf (h_rf base (FR0 c2 6))), (0, .ref (base + 119)), (1, va_rf (h_rf base (a1))), (2, .int (a2)), (3, va_rf (h_rf base (l3o)))]) (aX0_putChain 30 rfl) (by first | rfl | (simp [x_s1, x_s2, va_cat, va_ci, va_cl, va_cr, va_cn]; done) | (simp [x_s1, x_s2, va_cat, va_ci, va_cl, va_cr, va_cn]; decide)) ?_
  refine pw_goto (tgt := 78) (aX0_putChain 31 rfl) (by decide) ?_
  exact pw_Li (L2 := [(0, .ref (base + 119)), (1, va_rf (h_rf base (a1))), (2, .int (a2)), (3, va_rf (h_rf base (l3o))), (4, va_rf (h_rf base (FR0 c2 6)))]) [4, 0, 1, 2, 3] (rX0_putChain_78 hkb MX0_putNode MX0_putChoice MX0_putChain a1 a2 (FR0 c2 6) (l3o) n0 sl0 SH0 FI0 FL0 FR0 hok0 (fun a1 a2 n sl SH FI FL FR ok d => pw_mono (hMX0_putNode a1 a2 n sl SH FI FL FR ok d) (by omega)) (fun a1 a2 n sl SH FI FL FR ok d => pw_mono (hMX0_putChoice a1 a2 n sl SH FI FL FR ok d) (by omega)) (fun a1 a2 n sl SH FI FL FR ok d => pw_mono (hMX0_putChain a1 a2 n sl SH FI FL FR ok d) (by omega)) ) ⟨rfl, rfl, rfl, rfl, rfl, trivial⟩
set_option maxHeartbeats 4000000 in
set_option maxRecDepth 100000 in
theorem rX0_putChain {sk : xK} {base N d : Nat} (hkb : x_kb sk base) (MX0_putNode : Option Nat → Int32 → Nat → Nat → (Nat → Nat × Nat) → (Nat → Nat → Int32) → (Nat → Nat → Int64) → (Nat → Nat → Option Nat) → Unit → hS → Prop) (MX0_putChoice : Option Nat → Int32 → Nat → Nat → (Nat → Nat × Nat) → (Nat → Nat → Int32) → (Nat → Nat → Int64) → (Nat → Nat → Option Nat) → Unit → hS → Prop) (MX0_putChain : Option Nat → Int32 → Nat → Nat → (Nat → Nat × Nat) → (Nat → Nat → Int32) → (Nat → Nat → Int64) → (Nat → Nat → Option Nat) → Unit → hS → Prop) (a1 : Option Nat) (a2 : Int32) (n sl : Nat) (SH : Nat → Nat × Nat) (FI : Nat → Nat → Int32) (FL : Nat → Nat → Int64) (FR : Nat → Nat → Option Nat) (hok : pk n SH FR) (hMX0_putNode : ∀ (a1 : Option Nat) (a2 : Int32) (n sl : Nat) (SH : Nat → Nat × Nat) (FI : Nat → Nat → Int32) (FL : Nat → Nat → Int64) (FR : Nat → Nat → Option Nat), pk n SH FR → ∀ d, pw pj_V sk base (N - 1) d none 6 0 [(0, .ref (base + 119)), (1, va_rf (h_rf base (a1))), (2, .int (a2))] [] (n, sl, SH, FI, FL, FR) (MX0_putNode a1 a2 n sl SH FI FL FR)) (hMX0_putChoice : ∀ (a1 : Option Nat) (a2 : Int32) (n sl : Nat) (SH : Nat → Nat × Nat) (FI : Nat → Nat → Int32) (FL : Nat → Nat → Int64) (FR : Nat → Nat → Option Nat), pk n SH FR → ∀ d, pw pj_V sk base (N - 1) d none 8 0 [(0, .ref (base + 119)), (1, va_rf (h_rf base (a1))), (2, .int (a2))] [] (n, sl, SH, FI, FL, FR) (MX0_putChoice a1 a2 n sl SH FI FL FR)) (hMX0_putChain : ∀ (a1 : Option Nat) (a2 : Int32) (n sl : Nat) (SH : Nat → Nat × Nat) (FI : Nat → Nat → Int32) (FL : Nat → Nat → Int64) (FR : Nat → Nat → Option Nat), pk n SH FR → ∀ d, pw pj_V sk base (N - 1) d none 9 0 [(0, .ref (base + 119)), (1, va_rf (h_rf base (a1))), (2, .int (a2))] [] (n, sl, SH, FI, FL, FR) (MX0_putChain a1 a2 n sl SH FI FL FR)) : pw pj_V sk base N d none 9 0 [(0, .ref (base + 119)), (1, va_rf (h_rf base (a1))), (2, .int (a2))] [] (n, sl, SH, FI, FL, FR) (RX0_putChain MX0_putNode MX0_putChoice MX0_putChain a1 a2 n sl SH FI FL FR) := by
  unfold RX0_putChain
  refine pw_aloadn (aX0_putChain 0 rfl) rfl ?_
  refine pw_get (o := a1) (v := fun c1 => va_rf (h_rf base (FR c1 3))) (aX0_putChain 1 rfl) uf_RX0_113 un_RX0_113 (fun _ => rfl) (fun c1 hc1 _ tc1 => ?_)
  refine pw_astoren (L2 := [(3, va_rf (h_rf base (FR c1 3))), (0, .ref (base + 119)), (1, va_rf (h_rf base (a1))), (2, .int (a2))]) (aX0_putChain 2 rfl) (by first | rfl | (simp [x_s1, x_s2, va_cat, va_ci, va_cl, va_cr, va_cn]; done) | (simp [x_s1, x_s2, va_cat, va_ci, va_cl, va_cr, va_cn]; decide)) ?_
  refine pw_aloadn (aX0_putChain 3 rfl) rfl ?_
  refine pw_innull (o := FR c1 3) (tgt := 10) (aX0_putChain 4 rfl) (by decide) (fun b1 => ?_) (fun b1 => ?_)
  · skip
    exact pw_vret (aX0_putChain 5 rfl) hok
  · skip
    refine pw_aloadn (aX0_putChain 6 rfl) rfl ?_
    refine pw_get (o := FR c1 3) (v := fun c3 => va_rf (h_rf base (FR c3 6))) (aX0_putChain 7 rfl) uf_RX0_130 un_RX0_130 (fun _ => rfl) (fun c3 hc3 _ tc3 => ?_)
    refine pw_astore (L2 := [(4, va_rf (h_rf base (FR c3 6))), (3, va_rf (h_rf base (FR c1 3))), (0, .ref (base + 119)), (1, va_rf (h_rf base (a1))), (2, .int (a2))]) (aX0_putChain 8 rfl) (by first | rfl | (simp [x_s1, x_s2, va_cat, va_ci, va_cl, va_cr, va_cn]; done) | (simp [x_s1, x_s2, va_cat, va_ci, va_cl, va_cr, va_cn]; decide)) ?_
    refine pw_aloadn (aX0_putChain 9 rfl) rfl ?_
    refine pw_callS (As := [va_rf (h_rf base (FR c1 3))]) (L2 := [(0, va_rf (h_rf base (FR c1 3)))]) (rest := []) (aX0_putChain 10 rfl) um_RX0_132 ujX0_isBased wc_RX0_132.2.2.2.2 (by decide) rfl (by first | rfl | simp [lv_args, va_cat, va_ci, va_cl, va_cr, va_cn]) (fun d => rX0_isBased hkb (FR c1 3) n sl SH FI FL FR hok) (fun v3 n3 sl3 SH3 FI3 FL3 FR3 hok3 _ => ?_)
    show pw _ _ _ _ _ _ _ 20 _ [.int (v3)] _ _
    refine pw_ifeq (tgt := 70) (aX0_putChain 11 rfl) (by decide) (fun b4 => ?_) (fun b4 => ?_)
    · skip
      exact pw_Li (L2 := [(0, .ref (base + 119)), (1, va_rf (h_rf base (a1))), (2, .int (a2)), (3, va_rf (h_rf base (FR c1 3))), (4, va_rf (h_rf base (FR c3 6)))]) [4, 3, 0, 1, 2] (rX0_putChain_70 hkb MX0_putNode MX0_putChoice MX0_putChain a1 a2 (FR c1 3) (FR c3 6) n3 sl3 SH3 FI3 FL3 FR3 hok3 (fun a1 a2 n sl SH FI FL FR ok d => pw_mono (hMX0_putNode a1 a2 n sl SH FI FL FR ok d) (by omega)) (fun a1 a2 n sl SH FI FL FR ok d => pw_mono (hMX0_putChoice a1 a2 n sl SH FI FL FR ok d) (by omega)) (fun a1 a2 n sl SH FI FL FR ok d => pw_mono (hMX0_putChain a1 a2 n sl SH FI FL FR ok d) (by omega)) ) ⟨rfl, rfl, rfl, rfl, rfl, trivial⟩
    · skip
      refine pw_aload (aX0_putChain 12 rfl) rfl ?_
      refine pw_callS (As := [va_rf (h_rf base (FR c3 6))]) (L2 := [(0, va_rf (h_rf base (FR c3 6)))]) (rest := []) (aX0_putChain 13 rfl) um_RX0_136 ujX0_isPlainTerm wc_RX0_136.2.2.2.2 (by decide) rfl (by first | rfl | simp [lv_args, va_cat, va_ci, va_cl, va_cr, va_cn]) (fun d => rX0_isPlainTerm hkb (FR c3 6) n3 sl3 SH3 FI3 FL3 FR3 hok3) (fun v5 n5 sl5 SH5 FI5 FL5 FR5 hok5 _ => ?_)
      show pw _ _ _ _ _ _ _ 28 _ [.int (v5)] _ _
      refine pw_ifeq (tgt := 70) (aX0_putChain 14 rfl) (by decide) (fun b6 => ?_) (fun b6 => ?_)
      · skip
        exact pw_Li (L2 := [(0, .ref (base + 119)), (1, va_rf (h_rf base (a1))), (2, .int (a2)), (3, va_rf (h_rf base (FR c1 3))), (4, va_rf (h_rf base (FR c3 6)))]) [4, 3, 0, 1, 2] (rX0_putChain_70 hkb MX0_putNode MX0_putChoice MX0_putChain a1 a2 (FR c1 3) (FR c3 6) n5 sl5 SH5 FI5 FL5 FR5 hok5 (fun a1 a2 n sl SH FI FL FR ok d => pw_mono (hMX0_putNode a1 a2 n sl SH FI FL FR ok d) (by omega)) (fun a1 a2 n sl SH FI FL FR ok d => pw_mono (hMX0_putChoice a1 a2 n sl SH FI FL FR ok d) (by omega)) (fun a1 a2 n sl SH FI FL FR ok d => pw_mono (hMX0_putChain a1 a2 n sl SH FI FL FR ok d) (by omega)) ) ⟨rfl, rfl, rfl, rfl, rfl, trivial⟩
      · skip
        refine pw_aloadn (aX0_putChain 15 rfl) rfl ?_
        refine pw_aloadn (aX0_putChain 16 rfl) rfl ?_
        refine pw_aload (aX0_putChain 17 rfl) rfl ?_
        refine pw_get (o := FR c3 6) (v := fun c8 => .int (FI5 c8 2)) (aX0_putChain 18 rfl) uf_RX0_139 un_RX0_139 (fun _ => rfl) (fun c8 hc8 _ tc8 => ?_)
        refine pw_bipush (v := (45 : Int32)) (aX0_putChain 19 rfl) rfl ?_
        refine pw_icne (tgt := 52) (aX0_putChain 20 rfl) (by decide) (fun b8 => ?_) (fun b8 => ?_)
        · skip
          refine pw_aload (aX0_putChain 21 rfl) rfl ?_
          refine pw_get (o := FR c3 6) (v := fun c10 => .long (FL5 c10 1)) (aX0_putChain 22 rfl) uf_RX0_99 un_RX0_99 (fun _ => rfl) (fun c10 hc10 _ tc10 => ?_)
          refine pw_lneg (aX0_putChain 23 rfl) ?_
          refine pw_goto (tgt := 57) (aX0_putChain 24 rfl) (by decide) ?_
          exact pw_Li (L2 := [(0, .ref (base + 119)), (1, va_rf (h_rf base (a1))), (2, .int (a2)), (3, va_rf (h_rf base (FR c1 3))), (4, va_rf (h_rf base (FR c3 6)))]) [4, 3, 0, 1, 2] (rX0_putChain_57 hkb MX0_putNode MX0_putChoice MX0_putChain a1 a2 (FR c3 6) (-(FL5 c10 1)) (FR c1 3) (FR c1 3) n5 sl5 SH5 FI5 FL5 FR5 hok5 (fun a1 a2 n sl SH FI FL FR ok d => pw_mono (hMX0_putNode a1 a2 n sl SH FI FL FR ok d) (by omega)) (fun a1 a2 n sl SH FI FL FR ok d => pw_mono (hMX0_putChoice a1 a2 n sl SH FI FL FR ok d) (by omega)) (fun a1 a2 n sl SH FI FL FR ok d => pw_mono (hMX0_putChain a1 a2 n sl SH FI FL FR ok d) (by omega)) ) ⟨rfl, rfl, rfl, rfl, rfl, trivial⟩
        · skip
          refine pw_aload (aX0_putChain 25 rfl) rfl ?_
          refine pw_get (o := FR c3 6) (v := fun c11 => .long (FL5 c11 1)) (aX0_putChain 26 rfl) uf_RX0_99 un_RX0_99 (fun _ => rfl) (fun c11 hc11 _ tc11 => ?_)
          exact pw_Li (L2 := [(0, .ref (base + 119)), (1, va_rf (h_rf base (a1))), (2, .int (a2)), (3, va_rf (h_rf base (FR c1 3))), (4, va_rf (h_rf base (FR c3 6)))]) [4, 3, 0, 1, 2] (rX0_putChain_57 hkb MX0_putNode MX0_putChoice MX0_putChain a1 a2 (FR c3 6) (FL5 c11 1) (FR c1 3) (FR c1 3) n5 sl5 SH5 FI5 FL5 FR5 hok5 (fun a1 a2 n sl SH FI FL FR ok d => pw_mono (hMX0_putNode a1 a2 n sl SH FI FL FR ok d) (by omega)) (fun a1 a2 n sl SH FI FL FR ok d => pw_mono (hMX0_putChoice a1 a2 n sl SH FI FL FR ok d) (by omega)) (fun a1 a2 n sl SH FI FL FR ok d => pw_mono (hMX0_putChain a1 a2 n sl SH FI FL FR ok d) (by omega)) ) ⟨rfl, rfl, rfl, rfl, rfl, trivial⟩
theorem qX0 {sk : xK} {base : Nat} (hkb : x_kb sk base) (N : Nat) : (∀ (a1 : Option Nat) (a2 : Int32) (n sl : Nat) (SH : Nat → Nat × Nat) (FI : Nat → Nat → Int32) (FL : Nat → Nat → Int64) (FR : Nat → Nat → Option Nat), pk n SH FR → ∀ d, pw pj_V sk base N d none 6 0 [(0, .ref (base + 119)), (1, va_rf (h_rf base (a1))), (2, .int (a2))] [] (n, sl, SH, FI, FL, FR) (QX0 (N + 1) 0 a1 a2 n sl SH FI FL FR)) ∧ (∀ (a1 : Option Nat) (a2 : Int32) (n sl : Nat) (SH : Nat → Nat × Nat) (FI : Nat → Nat → Int32) (FL : Nat → Nat → Int64) (FR : Nat → Nat → Option Nat), pk n SH FR → ∀ d, pw pj_V sk base N d none 8 0 [(0, .ref (base + 119)), (1, va_rf (h_rf base (a1))), (2, .int (a2))] [] (n, sl, SH, FI, FL, FR) (QX0 (N + 1) 1 a1 a2 n sl SH FI FL FR)) ∧ (∀ (a1 : Option Nat) (a2 : Int32) (n sl : Nat) (SH : Nat → Nat × Nat) (FI : Nat → Nat → Int32) (FL : Nat → Nat → Int64) (FR : Nat → Nat → Option Nat), pk n SH FR → ∀ d, pw pj_V sk base N d none 9 0 [(0, .ref (base + 119)), (1, va_rf (h_rf base (a1))), (2, .int (a2))] [] (n, sl, SH, FI, FL, FR) (QX0 (N + 1) 2 a1 a2 n sl SH FI FL FR)) := by
  induction N with
  | zero => exact ⟨by intros; exact pw_0, by intros; exact pw_0, by intros; exact pw_0⟩
  | succ N ih => exact ⟨fun a1 a2 n sl SH FI FL FR hok d => rX0_putNode (N := N + 1) hkb _ _ _ a1 a2 n sl SH FI FL FR hok ih.1 ih.2.1 ih.2.2, fun a1 a2 n sl SH FI FL FR hok d => rX0_putChoice (N := N + 1) hkb _ _ _ a1 a2 n sl SH FI FL FR hok ih.1 ih.2.1 ih.2.2, fun a1 a2 n sl SH FI FL FR hok d => rX0_putChain (N := N + 1) hkb _ _ _ a1 a2 n sl SH FI FL FR hok ih.1 ih.2.1 ih.2.2⟩
theorem rX0_putNode_ {sk : xK} {base N d : Nat} (hkb : x_kb sk base) (a1 : Option Nat) (a2 : Int32) (n sl : Nat) (SH : Nat → Nat × Nat) (FI : Nat → Nat → Int32) (FL : Nat → Nat → Int64) (FR : Nat → Nat → Option Nat) (hok : pk n SH FR) : pw pj_V sk base N d none 6 0 [(0, .ref (base + 119)), (1, va_rf (h_rf base (a1))), (2, .int (a2))] [] (n, sl, SH, FI, FL, FR) (RX0_putNode_ a1 a2 n sl SH FI FL FR) := pw_cons ((qX0 hkb N).1 a1 a2 n sl SH FI FL FR hok d) (fun _ _ h => ⟨_, h⟩)
theorem rX0_putChoice_ {sk : xK} {base N d : Nat} (hkb : x_kb sk base) (a1 : Option Nat) (a2 : Int32) (n sl : Nat) (SH : Nat → Nat × Nat) (FI : Nat → Nat → Int32) (FL : Nat → Nat → Int64) (FR : Nat → Nat → Option Nat) (hok : pk n SH FR) : pw pj_V sk base N d none 8 0 [(0, .ref (base + 119)), (1, va_rf (h_rf base (a1))), (2, .int (a2))] [] (n, sl, SH, FI, FL, FR) (RX0_putChoice_ a1 a2 n sl SH FI FL FR) := pw_cons ((qX0 hkb N).2.1 a1 a2 n sl SH FI FL FR hok d) (fun _ _ h => ⟨_, h⟩)
theorem rX0_putChain_ {sk : xK} {base N d : Nat} (hkb : x_kb sk base) (a1 : Option Nat) (a2 : Int32) (n sl : Nat) (SH : Nat → Nat × Nat) (FI : Nat → Nat → Int32) (FL : Nat → Nat → Int64) (FR : Nat → Nat → Option Nat) (hok : pk n SH FR) : pw pj_V sk base N d none 9 0 [(0, .ref (base + 119)), (1, va_rf (h_rf base (a1))), (2, .int (a2))] [] (n, sl, SH, FI, FL, FR) (RX0_putChain_ a1 a2 n sl SH FI FL FR) := pw_cons ((qX0 hkb N).2.2 a1 a2 n sl SH FI FL FR hok d) (fun _ _ h => ⟨_, h⟩)
set_option maxHeartbeats 4000000 in
set_option maxRecDepth 100000 in
theorem rX0_putPlace {sk : xK} {base N d : Nat} (hkb : x_kb sk base) (a1 : Option Nat) (n sl : Nat) (SH : Nat → Nat × Nat) (FI : Nat → Nat → Int32) (FL : Nat → Nat → Int64) (FR : Nat → Nat → Option Nat) (hok : pk n SH FR)  : pw pj_V sk base N d none 4 0 [(0, .ref (base + 119)), (1, va_rf (h_rf base (a1)))] [] (n, sl, SH, FI, FL, FR) (RX0_putPlace a1 n sl SH FI FL FR) := by
  unfold RX0_putPlace
  refine pw_aloadn (aX0_putPlace 0 rfl) rfl ?_
  refine pw_get (o := a1) (v := fun c1 => .int (FI c1 0)) (aX0_putPlace 1 rfl) uf_RX0_74 un_RX0_74 (fun _ => rfl) (fun c1 hc1 _ tc1 => ?_)
  refine pw_tsw aX0_putPlace_4 (fun tg ht => ?_)
  refine pw_case ((FI c1 0).toInt = 1) (fun b2 => ?_) (fun b2 => ?_)
  · have et : tg = 51 := by
      rcases ht with ⟨h8, -⟩ | ⟨-, -, off, ho, ht⟩; { exact absurd h8 (by omega) }; { rw [b2] at ho; have e9 : off = (47 : Int) := (Option.some.inj (show some (47 : Int) = some off from ho)).symm; omega }
    subst et
    refine pw_aloadn (aX0_putPlace 10 rfl) rfl ?_
    refine pw_aloadn (aX0_putPlace 11 rfl) rfl ?_
    refine pw_get (o := a1) (v := fun c3 => va_rf (h_rf base (FR c3 2))) (aX0_putPlace 12 rfl) uf_RX0_81 un_RX0_81 (fun _ => rfl) (fun c3 hc3 _ tc3 => ?_)
    refine pw_iconst (v := (0 : Int32)) (aX0_putPlace 13 rfl) rfl ?_
    refine pw_callV (Bs := [va_rf (h_rf base (FR c3 2)), .int ((0 : Int32))]) (L2 := [(0, .ref (base + 119)), (1, va_rf (h_rf base (FR c3 2))), (2, .int ((0 : Int32)))]) (rest := []) (aX0_putPlace 14 rfl) um_RX0_85 ujX0_putNode wc_RX0_85.2.2.2.2 (by decide) (by decide) rfl (by first | rfl | simp [lv_args, va_cat, va_ci, va_cl, va_cr, va_cn]) (fun d => rX0_putNode_ hkb (FR c3 2) ((0 : Int32)) n sl SH FI FL FR hok) (fun v3 n3 sl3 SH3 FI3 FL3 FR3 hok3 _ => ?_)
    show pw _ _ _ _ _ _ _ 60 _ [] _ _
    refine pw_goto (tgt := 93) (aX0_putPlace 15 rfl) (by decide) ?_
    exact pw_vret (aX0_putPlace 30 rfl) hok3
  skip
  refine pw_case ((FI c1 0).toInt = 2) (fun b5 => ?_) (fun b5 => ?_)
  · have et : tg = 36 := by
      rcases ht with ⟨h8, -⟩ | ⟨-, -, off, ho, ht⟩; { exact absurd h8 (by omega) }; { rw [b5] at ho; have e9 : off = (32 : Int) := (Option.some.inj (show some (32 : Int) = some off from ho)).symm; omega }
    subst et
    refine pw_aloadn (aX0_putPlace 2 rfl) rfl ?_
    refine pw_bipush (v := (80 : Int32)) (aX0_putPlace 3 rfl) rfl ?_
    refine pw_aloadn (aX0_putPlace 4 rfl) rfl ?_
    refine pw_get (o := a1) (v := fun c6 => .long (FL c6 1)) (aX0_putPlace 5 rfl) uf_RX0_77 un_RX0_77 (fun _ => rfl) (fun c6 hc6 _ tc6 => ?_)
    refine pw_l2i (aX0_putPlace 6 rfl) ?_
    refine pw_iadd (aX0_putPlace 7 rfl) ?_
    refine pw_callV (Bs := [.int (((80 : Int32)) + ((FL c6 1).toInt32))]) (rest := []) (aX0_putPlace 8 rfl) um_RX0_62 ujX0_put wc_RX0_62.2.2.2.2 (by decide) (by decide) rfl rfl (fun d => rX0_put hkb (((80 : Int32)) + ((FL c6 1).toInt32)) n sl SH FI FL FR hok) (fun v6 n6 sl6 SH6 FI6 FL6 FR6 hok6 _ => ?_)
    show pw _ _ _ _ _ _ _ 48 _ [] _ _
    refine pw_goto (tgt := 93) (aX0_putPlace 9 rfl) (by decide) ?_
    exact pw_vret (aX0_putPlace 30 rfl) hok6
  skip
  refine pw_case ((FI c1 0).toInt = 3) (fun b8 => ?_) (fun b8 => ?_)
  · have et : tg = 63 := by
      rcases ht with ⟨h8, -⟩ | ⟨-, -, off, ho, ht⟩; { exact absurd h8 (by omega) }; { rw [b8] at ho; have e9 : off = (59 : Int) := (Option.some.inj (show some (59 : Int) = some off from ho)).symm; omega }
    subst et
    refine pw_aloadn (aX0_putPlace 16 rfl) rfl ?_
    refine pw_aloadn (aX0_putPlace 17 rfl) rfl ?_
    refine pw_get (o := a1) (v := fun c9 => va_rf (h_rf base (FR c9 2))) (aX0_putPlace 18 rfl) uf_RX0_81 un_RX0_81 (fun _ => rfl) (fun c9 hc9 _ tc9 => ?_)
    refine pw_iconst (v := (0 : Int32)) (aX0_putPlace 19 rfl) rfl ?_
    refine pw_callV (Bs := [va_rf (h_rf base (FR c9 2)), .int ((0 : Int32))]) (L2 := [(0, .ref (base + 119)), (1, va_rf (h_rf base (FR c9 2))), (2, .int ((0 : Int32)))]) (rest := []) (aX0_putPlace 20 rfl) um_RX0_85 ujX0_putNode wc_RX0_85.2.2.2.2 (by decide) (by decide) rfl (by first | rfl | simp [lv_args, va_cat, va_ci, va_cl, va_cr, va_cn]) (fun d => rX0_putNode_ hkb (FR c9 2) ((0 : Int32)) n sl SH FI FL FR hok) (fun v9 n9 sl9 SH9 FI9 FL9 FR9 hok9 _ => ?_)
    show pw _ _ _ _ _ _ _ 72 _ [] _ _
    refine pw_aloadn (aX0_putPlace 21 rfl) rfl ?_
    refine pw_sipush (v := (159 : Int32)) (aX0_putPlace 22 rfl) rfl ?_
    refine pw_callV (Bs := [.int ((159 : Int32))]) (rest := []) (aX0_putPlace 23 rfl) um_RX0_62 ujX0_put wc_RX0_62.2.2.2.2 (by decide) (by decide) rfl rfl (fun d => rX0_put hkb ((159 : Int32)) n9 sl9 SH9 FI9 FL9 FR9 hok9) (fun v10 n10 sl10 SH10 FI10 FL10 FR10 hok10 _ => ?_)
    show pw _ _ _ _ _ _ _ 79 _ [] _ _
    refine pw_goto (tgt := 93) (aX0_putPlace 24 rfl) (by decide) ?_
    exact pw_vret (aX0_putPlace 30 rfl) hok10
  skip
  refine pw_case ((FI c1 0).toInt = 4) (fun b12 => ?_) (fun b12 => ?_)
  · have et : tg = 82 := by
      rcases ht with ⟨h8, -⟩ | ⟨-, -, off, ho, ht⟩; { exact absurd h8 (by omega) }; { rw [b12] at ho; have e9 : off = (78 : Int) := (Option.some.inj (show some (78 : Int) = some off from ho)).symm; omega }
    subst et
    refine pw_aloadn (aX0_putPlace 25 rfl) rfl ?_
    refine pw_aloadn (aX0_putPlace 26 rfl) rfl ?_
    refine pw_get (o := a1) (v := fun c13 => va_rf (h_rf base (FR c13 3))) (aX0_putPlace 27 rfl) uf_RX0_89 un_RX0_89 (fun _ => rfl) (fun c13 hc13 _ tc13 => ?_)
    refine pw_callV (Bs := [va_rf (h_rf base (FR c13 3))]) (L2 := [(0, .ref (base + 119)), (1, va_rf (h_rf base (FR c13 3)))]) (rest := []) (aX0_putPlace 28 rfl) um_RX0_92 ujX0_putBlock wc_RX0_92.2.2.2.2 (by decide) (by decide) rfl (by first | rfl | simp [lv_args, va_cat, va_ci, va_cl, va_cr, va_cn]) (fun d => rX0_putBlock hkb (FR c13 3) n sl SH FI FL FR hok) (fun v13 n13 sl13 SH13 FI13 FL13 FR13 hok13 _ => ?_)
    show pw _ _ _ _ _ _ _ 90 _ [] _ _
    refine pw_goto (tgt := 93) (aX0_putPlace 29 rfl) (by decide) ?_
    exact pw_vret (aX0_putPlace 30 rfl) hok13
  skip
  have et : tg = 93 := by
    rcases ht with ⟨-, h8⟩ | ⟨h1, h2, -⟩; { omega }; { exfalso; omega }
  subst et
  exact pw_vret (aX0_putPlace 30 rfl) hok
set_option maxHeartbeats 4000000 in
set_option maxRecDepth 100000 in
theorem rX0_putLocation_40 {sk : xK} {base N d : Nat} {K7 : Int32 → Option Nat → Nat → Nat → (Nat → Nat × Nat) → (Nat → Nat → Int32) → (Nat → Nat → Int64) → (Nat → Nat → Option Nat) → Int32 → hS → Prop} (hkb : x_kb sk base) (a1 : Option Nat) (l2i : Int32) (l3o : Option Nat)  (n sl : Nat) (SH : Nat → Nat × Nat) (FI : Nat → Nat → Int32) (FL : Nat → Nat → Int64) (FR : Nat → Nat → Option Nat) (hok : pk n SH FR)  (hK7 : ∀ (l2i : Int32) (l3o : Option Nat) (n sl : Nat) (SH : Nat → Nat × Nat) (FI : Nat → Nat → Int32) (FL : Nat → Nat → Int64) (FR : Nat → Nat → Option Nat), pk n SH FR → pw pj_I sk base N d none 3 7 [(0, .ref (base + 119)), (1, va_rf (h_rf base (a1))), (2, .int (l2i)), (3, va_rf (h_rf base (l3o)))] [] (n, sl, SH, FI, FL, FR) (K7 l2i l3o n sl SH FI FL FR)) : pw pj_I sk base N d none 3 40 [(0, .ref (base + 119)), (1, va_rf (h_rf base (a1))), (2, .int (l2i)), (3, va_rf (h_rf base (l3o)))] [] (n, sl, SH, FI, FL, FR) (RX0_putLocation_40 K7 a1 l2i l3o n sl SH FI FL FR) := by
  unfold RX0_putLocation_40
  refine pw_aloadn (aX0_putLocation 22 rfl) rfl ?_
  refine pw_get (o := l3o) (v := fun c1 => va_rf (h_rf base (FR c1 5))) (aX0_putLocation 23 rfl) uf_RX0_70 un_RX0_70 (fun _ => rfl) (fun c1 hc1 _ tc1 => ?_)
  refine pw_astoren (L2 := [(3, va_rf (h_rf base (FR c1 5))), (0, .ref (base + 119)), (1, va_rf (h_rf base (a1))), (2, .int (l2i))]) (aX0_putLocation 24 rfl) (by first | rfl | (simp [x_s1, x_s2, va_cat, va_ci, va_cl, va_cr, va_cn]; done) | (simp [x_s1, x_s2, va_cat, va_ci, va_cl, va_cr, va_cn]; decide)) ?_
  refine pw_goto (tgt := 7) (aX0_putLocation 25 rfl) (by decide) ?_
  exact pw_Li (L2 := [(0, .ref (base + 119)), (1, va_rf (h_rf base (a1))), (2, .int (l2i)), (3, va_rf (h_rf base (FR c1 5)))]) [3, 0, 1, 2] (hK7 (l2i) (FR c1 5) n sl SH FI FL FR hok) ⟨rfl, rfl, rfl, rfl, trivial⟩
set_option maxHeartbeats 4000000 in
set_option maxRecDepth 100000 in
theorem bX0_putLocation_7 {sk : xK} {base N d : Nat} {K7 : Int32 → Option Nat → Nat → Nat → (Nat → Nat × Nat) → (Nat → Nat → Int32) → (Nat → Nat → Int64) → (Nat → Nat → Option Nat) → Int32 → hS → Prop} (hkb : x_kb sk base) (a1 : Option Nat) (l2i : Int32) (l3o : Option Nat)  (n sl : Nat) (SH : Nat → Nat × Nat) (FI : Nat → Nat → Int32) (FL : Nat → Nat → Int64) (FR : Nat → Nat → Option Nat) (hok : pk n SH FR)  (hK7 : ∀ (l2i : Int32) (l3o : Option Nat) (n sl : Nat) (SH : Nat → Nat × Nat) (FI : Nat → Nat → Int32) (FL : Nat → Nat → Int64) (FR : Nat → Nat → Option Nat), pk n SH FR → pw pj_I sk base N d none 3 7 [(0, .ref (base + 119)), (1, va_rf (h_rf base (a1))), (2, .int (l2i)), (3, va_rf (h_rf base (l3o)))] [] (n, sl, SH, FI, FL, FR) (K7 l2i l3o n sl SH FI FL FR)) : pw pj_I sk base (N + 1) d none 3 7 [(0, .ref (base + 119)), (1, va_rf (h_rf base (a1))), (2, .int (l2i)), (3, va_rf (h_rf base (l3o)))] [] (n, sl, SH, FI, FL, FR) (BX0_putLocation_7 K7 a1 l2i l3o n sl SH FI FL FR) := by
  unfold BX0_putLocation_7
  refine pd_aloadn (aX0_putLocation 5 rfl) rfl ?_
  refine pw_inull (o := l3o) (tgt := 48) (aX0_putLocation 6 rfl) (by decide) (fun b0 => ?_) (fun b0 => ?_)
  · skip
    refine pw_aloadn (aX0_putLocation 26 rfl) rfl ?_
    refine pw_getr (v := .int (FI 119 1)) (aX0_putLocation 27 rfl) uf_RX0_15 un_RX0_15 rfl ?_
    refine pw_iloadn (aX0_putLocation 28 rfl) rfl ?_
    refine pw_isub (aX0_putLocation 29 rfl) ?_
    refine pw_sipush (v := (300 : Int32)) (aX0_putLocation 30 rfl) rfl ?_
    refine pw_icgt (tgt := 64) (aX0_putLocation 31 rfl) (by decide) (fun b1 => ?_) (fun b1 => ?_)
    · skip
      refine pw_iconst (v := (0 : Int32)) (aX0_putLocation 34 rfl) rfl ?_
      exact pw_iret (aX0_putLocation 35 rfl) hok
    · skip
      refine pw_iconst (v := (1 : Int32)) (aX0_putLocation 32 rfl) rfl ?_
      refine pw_goto (tgt := 65) (aX0_putLocation 33 rfl) (by decide) ?_
      exact pw_iret (aX0_putLocation 35 rfl) hok
  · skip
    refine pw_aloadn (aX0_putLocation 7 rfl) rfl ?_
    refine pw_aloadn (aX0_putLocation 8 rfl) rfl ?_
    refine pw_callV (Bs := [va_rf (h_rf base (l3o))]) (L2 := [(0, .ref (base + 119)), (1, va_rf (h_rf base (l3o)))]) (rest := []) (aX0_putLocation 9 rfl) um_RX0_53 ujX0_putPlace wc_RX0_53.2.2.2.2 (by decide) (by decide) rfl (by first | rfl | simp [lv_args, va_cat, va_ci, va_cl, va_cr, va_cn]) (fun d => rX0_putPlace hkb (l3o) n sl SH FI FL FR hok) (fun v2 n2 sl2 SH2 FI2 FL2 FR2 hok2 _ => ?_)
    show pw _ _ _ _ _ _ _ 16 _ [] _ _
    refine pw_aloadn (aX0_putLocation 10 rfl) rfl ?_
    refine pw_get (o := l3o) (v := fun c4 => .int (FI2 c4 4)) (aX0_putLocation 11 rfl) uf_RX0_57 un_RX0_57 (fun _ => rfl) (fun c4 hc4 _ tc4 => ?_)
    refine pw_iconst (v := (-1 : Int32)) (aX0_putLocation 12 rfl) rfl ?_
    refine pw_iceq (tgt := 40) (aX0_putLocation 13 rfl) (by decide) (fun b4 => ?_) (fun b4 => ?_)
    · skip
      exact pw_Li (L2 := [(0, .ref (base + 119)), (1, va_rf (h_rf base (a1))), (2, .int (l2i)), (3, va_rf (h_rf base (l3o)))]) [0, 1, 2, 3] (rX0_putLocation_40 hkb a1 (l2i) (l3o) n2 sl2 SH2 FI2 FL2 FR2 hok2  hK7) ⟨rfl, rfl, rfl, rfl, trivial⟩
    · skip
      refine pw_aloadn (aX0_putLocation 14 rfl) rfl ?_
      refine pw_sipush (v := (147 : Int32)) (aX0_putLocation 15 rfl) rfl ?_
      refine pw_callV (Bs := [.int ((147 : Int32))]) (rest := []) (aX0_putLocation 16 rfl) um_RX0_62 ujX0_put wc_RX0_62.2.2.2.2 (by decide) (by decide) rfl rfl (fun d => rX0_put hkb ((147 : Int32)) n2 sl2 SH2 FI2 FL2 FR2 hok2) (fun v5 n5 sl5 SH5 FI5 FL5 FR5 hok5 _ => ?_)
      show pw _ _ _ _ _ _ _ 31 _ [] _ _
      refine pw_aloadn (aX0_putLocation 17 rfl) rfl ?_
      refine pw_aloadn (aX0_putLocation 18 rfl) rfl ?_
      refine pw_get (o := l3o) (v := fun c7 => .int (FI5 c7 4)) (aX0_putLocation 19 rfl) uf_RX0_57 un_RX0_57 (fun _ => rfl) (fun c7 hc7 _ tc7 => ?_)
      refine pw_i2l (aX0_putLocation 20 rfl) ?_
      refine pw_callV (Bs := [.long ((FI5 c7 4).toInt64)]) (rest := []) (aX0_putLocation 21 rfl) um_RX0_66 ujX0_putLeb wc_RX0_66.2.2.2.2 (by decide) (by decide) rfl rfl (fun d => rX0_putLeb hkb ((FI5 c7 4).toInt64) n5 sl5 SH5 FI5 FL5 FR5 hok5) (fun v7 n7 sl7 SH7 FI7 FL7 FR7 hok7 _ => ?_)
      show pw _ _ _ _ _ _ _ 40 _ [] _ _
      exact pw_Li (L2 := [(0, .ref (base + 119)), (1, va_rf (h_rf base (a1))), (2, .int (l2i)), (3, va_rf (h_rf base (l3o)))]) [0, 1, 2, 3] (rX0_putLocation_40 hkb a1 (l2i) (l3o) n7 sl7 SH7 FI7 FL7 FR7 hok7  hK7) ⟨rfl, rfl, rfl, rfl, trivial⟩
theorem gX0_putLocation_7 {sk : xK} {base d : Nat}  (hkb : x_kb sk base) (a1 : Option Nat) (N : Nat) :  ∀ (l2i : Int32) (l3o : Option Nat)  (n sl : Nat) (SH : Nat → Nat × Nat) (FI : Nat → Nat → Int32) (FL : Nat → Nat → Int64) (FR : Nat → Nat → Option Nat), pk n SH FR → pw pj_I sk base N d none 3 7 [(0, .ref (base + 119)), (1, va_rf (h_rf base (a1))), (2, .int (l2i)), (3, va_rf (h_rf base (l3o)))] [] (n, sl, SH, FI, FL, FR) (GX0_putLocation_7  a1 (N + 1) l2i l3o n sl SH FI FL FR) := by
  induction N with
  | zero => intros; exact pw_0
  | succ N ih => intro   l2i l3o  n sl SH FI FL FR hok; exact bX0_putLocation_7 hkb a1 l2i l3o  n sl SH FI FL FR hok  (ih  )
theorem rX0_putLocation_7 {sk : xK} {base N d : Nat}  (hkb : x_kb sk base) (a1 : Option Nat) (l2i : Int32) (l3o : Option Nat)  (n sl : Nat) (SH : Nat → Nat × Nat) (FI : Nat → Nat → Int32) (FL : Nat → Nat → Int64) (FR : Nat → Nat → Option Nat) (hok : pk n SH FR)   : pw pj_I sk base N d none 3 7 [(0, .ref (base + 119)), (1, va_rf (h_rf base (a1))), (2, .int (l2i)), (3, va_rf (h_rf base (l3o)))] [] (n, sl, SH, FI, FL, FR) (RX0_putLocation_7  a1 l2i l3o n sl SH FI FL FR) := pw_cons (gX0_putLocation_7 hkb a1 N   l2i l3o  n sl SH FI FL FR hok) (fun _ _ h => ⟨_, h⟩)
set_option maxHeartbeats 4000000 in
set_option maxRecDepth 100000 in
theorem rX0_putLocation {sk : xK} {base N d : Nat} (hkb : x_kb sk base) (a1 : Option Nat) (n sl : Nat) (SH : Nat → Nat × Nat) (FI : Nat → Nat → Int32) (FL : Nat → Nat → Int64) (FR : Nat → Nat → Option Nat) (hok : pk n SH FR)  : pw pj_I sk base N d none 3 0 [(0, .ref (base + 119)), (1, va_rf (h_rf base (a1)))] [] (n, sl, SH, FI, FL, FR) (RX0_putLocation a1 n sl SH FI FL FR) := by
  unfold RX0_putLocation
  refine pw_aloadn (aX0_putLocation 0 rfl) rfl ?_
  refine pw_getr (v := .int (FI 119 1)) (aX0_putLocation 1 rfl) uf_RX0_15 un_RX0_15 rfl ?_
  refine pw_istoren (L2 := [(2, .int (FI 119 1)), (0, .ref (base + 119)), (1, va_rf (h_rf base (a1)))]) (aX0_putLocation 2 rfl) (by first | rfl | (simp [x_s1, x_s2, va_cat, va_ci, va_cl, va_cr, va_cn]; done) | (simp [x_s1, x_s2, va_cat, va_ci, va_cl, va_cr, va_cn]; decide)) ?_
  refine pw_aloadn (aX0_putLocation 3 rfl) rfl ?_
  refine pw_astoren (L2 := [(3, va_rf (h_rf base (a1))), (2, .int (FI 119 1)), (0, .ref (base + 119)), (1, va_rf (h_rf base (a1)))]) (aX0_putLocation 4 rfl) (by first | rfl | (simp [x_s1, x_s2, va_cat, va_ci, va_cl, va_cr, va_cn]; done) | (simp [x_s1, x_s2, va_cat, va_ci, va_cl, va_cr, va_cn]; decide)) ?_
  exact pw_Li (L2 := [(0, .ref (base + 119)), (1, va_rf (h_rf base (a1))), (2, .int (FI 119 1)), (3, va_rf (h_rf base (a1)))]) [3, 2, 0, 1] (rX0_putLocation_7 hkb a1 (FI 119 1) (a1) n sl SH FI FL FR hok  ) ⟨rfl, rfl, rfl, rfl, trivial⟩
set_option maxHeartbeats 4000000 in
set_option maxRecDepth 100000 in
theorem rX0_code_132 {sk : xK} {base N d : Nat}  (hkb : x_kb sk base) (a1 : Option Nat) (l2i : Int32) (l3i : Int32) (l4i : Int32) (n sl : Nat) (SH : Nat → Nat × Nat) (FI : Nat → Nat → Int32) (FL : Nat → Nat → Int64) (FR : Nat → Nat → Option Nat) (hok : pk n SH FR)   : pw (pj_A base) sk base N d none 2 132 [(0, .ref (base + 119)), (1, va_rf (h_rf base (a1))), (2, .int (l2i)), (3, .int (l3i)), (4, .int (l4i))] [] (n, sl, SH, FI, FL, FR) (RX0_code_132  a1 l2i n sl SH FI FL FR) := by
  unfold RX0_code_132
  refine pw_iloadn (aX0_code 76 rfl) rfl ?_
  refine pw_ifeq (tgt := 162) (aX0_code 77 rfl) (by decide) (fun b0 => ?_) (fun b0 => ?_)
  · skip
    refine pw_null (aX0_code 90 rfl) ?_
    exact pw_aret (o := none) (aX0_code 91 rfl) hok
  · skip
    refine pw_aloadn (aX0_code 78 rfl) rfl ?_
    refine pw_getr (v := .int (FI 119 1)) (aX0_code 79 rfl) uf_RX0_15 un_RX0_15 rfl ?_
    refine pw_aloadn (aX0_code 80 rfl) rfl ?_
    refine pw_getr (v := .ref (base + 120)) (aX0_code 81 rfl) uf_RX0_9 un_RX0_9 (congrArg (fun r => va_rf (h_rf base r)) (q119_0 (hok).2.1)) ?_
    refine pw_alenr hkb (c := 120) (aX0_code 82 rfl) ?_
    refine pw_icgt (tgt := 162) (aX0_code 83 rfl) (by decide) (fun b1 => ?_) (fun b1 => ?_)
    · skip
      refine pw_null (aX0_code 90 rfl) ?_
      exact pw_aret (o := none) (aX0_code 91 rfl) hok
    · skip
      refine pw_aloadn (aX0_code 84 rfl) rfl ?_
      refine pw_getr (v := .ref (base + 120)) (aX0_code 85 rfl) uf_RX0_9 un_RX0_9 (congrArg (fun r => va_rf (h_rf base r)) (q119_0 (hok).2.1)) ?_
      refine pw_aloadn (aX0_code 86 rfl) rfl ?_
      refine pw_getr (v := .int (FI 119 1)) (aX0_code 87 rfl) uf_RX0_15 un_RX0_15 rfl ?_
      refine pw_callS (As := [.ref (base + 120), .int (FI 119 1)]) (rest := []) (aX0_code 88 rfl) um_RX0_47 ujJ7_copyOf_59c91 wc_RX0_47.2.2.2.2 (by decide) rfl rfl (fun d => rJ7_copyOf_59c91 hkb (some 120) (FI 119 1) n sl SH FI FL FR hok) (fun v2 n2 sl2 SH2 FI2 FL2 FR2 hok2 _ => ?_)
      show pw _ _ _ _ _ _ _ 159 _ [va_rf (h_rf base (v2))] _ _
      refine pw_goto (tgt := 163) (aX0_code 89 rfl) (by decide) ?_
      exact pw_aret (o := v2) (aX0_code 91 rfl) hok2
set_option maxHeartbeats 4000000 in
set_option maxRecDepth 100000 in
theorem rX0_code_111 {sk : xK} {base N d : Nat}  (hkb : x_kb sk base) (a1 : Option Nat) (l2i : Int32) (l3i : Int32) (l4i : Int32) (n sl : Nat) (SH : Nat → Nat × Nat) (FI : Nat → Nat → Int32) (FL : Nat → Nat → Int64) (FR : Nat → Nat → Option Nat) (hok : pk n SH FR)   : pw (pj_A base) sk base N d none 2 111 [(0, .ref (base + 119)), (1, va_rf (h_rf base (a1))), (2, .int (l2i)), (3, .int (l3i)), (4, .int (l4i))] [] (n, sl, SH, FI, FL, FR) (RX0_code_111  a1 l2i n sl SH FI FL FR) := by
  unfold RX0_code_111
  refine pw_aloadn (aX0_code 65 rfl) rfl ?_
  refine pw_get (o := a1) (v := fun c1 => .int (FI c1 5)) (aX0_code 66 rfl) uf_RX0_19 un_RX0_19 (fun _ => rfl) (fun c1 hc1 _ tc1 => ?_)
  refine pw_ifle (tgt := 132) (aX0_code 67 rfl) (by decide) (fun b1 => ?_) (fun b1 => ?_)
  · skip
    refine pw_aloadn (aX0_code 68 rfl) rfl ?_
    refine pw_lconst (v := (0 : Int64)) (aX0_code 69 rfl) rfl ?_
    refine pw_bipush (v := (8 : Int32)) (aX0_code 70 rfl) rfl ?_
    refine pw_callV (Bs := [.long ((0 : Int64)), .int ((8 : Int32))]) (rest := []) (aX0_code 71 rfl) um_RX0_36 ujX0_putNumber wc_RX0_36.2.2.2.2 (by decide) (by decide) rfl rfl (fun d => rX0_putNumber hkb ((0 : Int64)) ((8 : Int32)) n sl SH FI FL FR hok) (fun v2 n2 sl2 SH2 FI2 FL2 FR2 hok2 _ => ?_)
    show pw _ _ _ _ _ _ _ 125 _ [] _ _
    refine pw_aloadn (aX0_code 72 rfl) rfl ?_
    refine pw_lconst (v := (0 : Int64)) (aX0_code 73 rfl) rfl ?_
    refine pw_bipush (v := (8 : Int32)) (aX0_code 74 rfl) rfl ?_
    refine pw_callV (Bs := [.long ((0 : Int64)), .int ((8 : Int32))]) (rest := []) (aX0_code 75 rfl) um_RX0_36 ujX0_putNumber wc_RX0_36.2.2.2.2 (by decide) (by decide) rfl rfl (fun d => rX0_putNumber hkb ((0 : Int64)) ((8 : Int32)) n2 sl2 SH2 FI2 FL2 FR2 hok2) (fun v3 n3 sl3 SH3 FI3 FL3 FR3 hok3 _ => ?_)
    show pw _ _ _ _ _ _ _ 132 _ [] _ _
    exact pw_Li (L2 := [(0, .ref (base + 119)), (1, va_rf (h_rf base (a1))), (2, .int (l2i)), (3, .int (l3i)), (4, .int (l4i))]) [0, 1, 2, 3, 4] (rX0_code_132 hkb a1 (l2i) (l3i) (l4i) n3 sl3 SH3 FI3 FL3 FR3 hok3  ) ⟨rfl, rfl, rfl, rfl, rfl, trivial⟩
  · skip
    exact pw_Li (L2 := [(0, .ref (base + 119)), (1, va_rf (h_rf base (a1))), (2, .int (l2i)), (3, .int (l3i)), (4, .int (l4i))]) [0, 1, 2, 3, 4] (rX0_code_132 hkb a1 (l2i) (l3i) (l4i) n sl SH FI FL FR hok  ) ⟨rfl, rfl, rfl, rfl, rfl, trivial⟩
set_option maxHeartbeats 4000000 in
set_option maxRecDepth 100000 in
theorem bX0_code_27 {sk : xK} {base N d : Nat} {K27 : Int32 → Int32 → Nat → Nat → (Nat → Nat × Nat) → (Nat → Nat → Int32) → (Nat → Nat → Int64) → (Nat → Nat → Option Nat) → Option Nat → hS → Prop} (hkb : x_kb sk base) (a1 : Option Nat) (l2i : Int32) (l3i : Int32) (l4i : Int32) (n sl : Nat) (SH : Nat → Nat × Nat) (FI : Nat → Nat → Int32) (FL : Nat → Nat → Int64) (FR : Nat → Nat → Option Nat) (hok : pk n SH FR)  (hK27 : ∀ (l2i : Int32) (l3i : Int32) (l4i : Int32) (n sl : Nat) (SH : Nat → Nat × Nat) (FI : Nat → Nat → Int32) (FL : Nat → Nat → Int64) (FR : Nat → Nat → Option Nat), pk n SH FR → pw (pj_A base) sk base N d none 2 27 [(0, .ref (base + 119)), (1, va_rf (h_rf base (a1))), (2, .int (l2i)), (3, .int (l3i)), (4, .int (l4i))] [] (n, sl, SH, FI, FL, FR) (K27 l2i l3i n sl SH FI FL FR)) : pw (pj_A base) sk base (N + 1) d none 2 27 [(0, .ref (base + 119)), (1, va_rf (h_rf base (a1))), (2, .int (l2i)), (3, .int (l3i)), (4, .int (l4i))] [] (n, sl, SH, FI, FL, FR) (BX0_code_27 K27 a1 l2i l3i n sl SH FI FL FR) := by
  unfold BX0_code_27
  refine pd_iloadn (aX0_code 17 rfl) rfl ?_
  refine pw_aloadn (aX0_code 18 rfl) rfl ?_
  refine pw_get (o := a1) (v := fun c1 => .int (FI c1 5)) (aX0_code 19 rfl) uf_RX0_19 un_RX0_19 (fun _ => rfl) (fun c1 hc1 _ tc1 => ?_)
  refine pw_icge (tgt := 111) (aX0_code 20 rfl) (by decide) (fun b1 => ?_) (fun b1 => ?_)
  · skip
    refine pw_iloadn (aX0_code 21 rfl) rfl ?_
    refine pw_bipush (v := (8 : Int32)) (aX0_code 22 rfl) rfl ?_
    refine pw_icge (tgt := 111) (aX0_code 23 rfl) (by decide) (fun b2 => ?_) (fun b2 => ?_)
    · skip
      refine pw_aloadn (aX0_code 24 rfl) rfl ?_
      refine pw_aloadn (aX0_code 25 rfl) rfl ?_
      refine pw_get (o := a1) (v := fun c4 => va_rf (h_rf base (FR c4 2))) (aX0_code 26 rfl) uf_RX0_32 un_RX0_32 (fun _ => rfl) (fun c4 hc4 _ tc4 => ?_)
      refine pw_iloadn (aX0_code 27 rfl) rfl ?_
      refine pw_lald (ix := (l3i).toInt.toNat) (o := FR c4 2) (aX0_code 28 rfl) rfl (fun c5 hc5 _ gc5 => ?_)
      refine pw_bipush (v := (8 : Int32)) (aX0_code 29 rfl) rfl ?_
      refine pw_callV (Bs := [.long (FL c5 (l3i).toInt.toNat), .int ((8 : Int32))]) (rest := []) (aX0_code 30 rfl) um_RX0_36 ujX0_putNumber wc_RX0_36.2.2.2.2 (by decide) (by decide) rfl rfl (fun d => rX0_putNumber hkb (FL c5 (l3i).toInt.toNat) ((8 : Int32)) n sl SH FI FL FR hok) (fun v5 n5 sl5 SH5 FI5 FL5 FR5 hok5 _ => ?_)
      show pw _ _ _ _ _ _ _ 53 _ [] _ _
      refine pw_aloadn (aX0_code 31 rfl) rfl ?_
      refine pw_aloadn (aX0_code 32 rfl) rfl ?_
      refine pw_get (o := a1) (v := fun c7 => va_rf (h_rf base (FR5 c7 3))) (aX0_code 33 rfl) uf_RX0_40 un_RX0_40 (fun _ => rfl) (fun c7 hc7 _ tc7 => ?_)
      refine pw_iloadn (aX0_code 34 rfl) rfl ?_
      refine pw_lald (ix := (l3i).toInt.toNat) (o := FR5 c7 3) (aX0_code 35 rfl) rfl (fun c8 hc8 _ gc8 => ?_)
      refine pw_bipush (v := (8 : Int32)) (aX0_code 36 rfl) rfl ?_
      refine pw_callV (Bs := [.long (FL5 c8 (l3i).toInt.toNat), .int ((8 : Int32))]) (rest := []) (aX0_code 37 rfl) um_RX0_36 ujX0_putNumber wc_RX0_36.2.2.2.2 (by decide) (by decide) rfl rfl (fun d => rX0_putNumber hkb (FL5 c8 (l3i).toInt.toNat) ((8 : Int32)) n5 sl5 SH5 FI5 FL5 FR5 hok5) (fun v8 n8 sl8 SH8 FI8 FL8 FR8 hok8 _ => ?_)
      show pw _ _ _ _ _ _ _ 65 _ [] _ _
      refine pw_aloadn (aX0_code 38 rfl) rfl ?_
      refine pw_getr (v := .int (FI8 119 1)) (aX0_code 39 rfl) uf_RX0_15 un_RX0_15 rfl ?_
      refine pw_istore (L2 := [(4, .int (FI8 119 1)), (0, .ref (base + 119)), (1, va_rf (h_rf base (a1))), (2, .int (l2i)), (3, .int (l3i))]) (aX0_code 40 rfl) (by first | rfl | (simp [x_s1, x_s2, va_cat, va_ci, va_cl, va_cr, va_cn]; done) | (simp [x_s1, x_s2, va_cat, va_ci, va_cl, va_cr, va_cn]; decide)) ?_
      refine pw_aloadn (aX0_code 41 rfl) rfl ?_
      refine pw_lconst (v := (0 : Int64)) (aX0_code 42 rfl) rfl ?_
      refine pw_iconst (v := (2 : Int32)) (aX0_code 43 rfl) rfl ?_
      refine pw_callV (Bs := [.long ((0 : Int64)), .int ((2 : Int32))]) (rest := []) (aX0_code 44 rfl) um_RX0_36 ujX0_putNumber wc_RX0_36.2.2.2.2 (by decide) (by decide) rfl rfl (fun d => rX0_putNumber hkb ((0 : Int64)) ((2 : Int32)) n8 sl8 SH8 FI8 FL8 FR8 hok8) (fun v9 n9 sl9 SH9 FI9 FL9 FR9 hok9 _ => ?_)
      show pw _ _ _ _ _ _ _ 77 _ [] _ _
      refine pw_iloadn (aX0_code 45 rfl) rfl ?_
      refine pw_aloadn (aX0_code 46 rfl) rfl ?_
      refine pw_aloadn (aX0_code 47 rfl) rfl ?_
      refine pw_get (o := a1) (v := fun c11 => va_rf (h_rf base (FR9 c11 4))) (aX0_code 48 rfl) uf_RX0_24 un_RX0_24 (fun _ => rfl) (fun c11 hc11 _ tc11 => ?_)
      refine pw_iloadn (aX0_code 49 rfl) rfl ?_
      refine pw_aald (ix := (l3i).toInt.toNat) (o := FR9 c11 4) (aX0_code 50 rfl) rfl (fun c12 hc12 _ gc12 => ?_)
      refine pw_callV (Bs := [va_rf (h_rf base (FR9 c12 (l3i).toInt.toNat))]) (L2 := [(0, .ref (base + 119)), (1, va_rf (h_rf base (FR9 c12 (l3i).toInt.toNat)))]) (rest := [.int (l2i)]) (aX0_code 51 rfl) um_RX0_28 ujX0_putLocation wc_RX0_28.2.2.2.2 (by decide) (by decide) rfl (by first | rfl | simp [lv_args, va_cat, va_ci, va_cl, va_cr, va_cn]) (fun d => rX0_putLocation hkb (FR9 c12 (l3i).toInt.toNat) n9 sl9 SH9 FI9 FL9 FR9 hok9) (fun v12 n12 sl12 SH12 FI12 FL12 FR12 hok12 _ => ?_)
      show pw _ _ _ _ _ _ _ 88 _ [.int (v12), .int (l2i)] _ _
      refine pw_iand (aX0_code 52 rfl) ?_
      refine pw_istoren (L2 := [(2, .int ((l2i) &&& (v12))), (4, .int (FI8 119 1)), (0, .ref (base + 119)), (1, va_rf (h_rf base (a1))), (3, .int (l3i))]) (aX0_code 53 rfl) (by first | rfl | (simp [x_s1, x_s2, va_cat, va_ci, va_cl, va_cr, va_cn]; done) | (simp [x_s1, x_s2, va_cat, va_ci, va_cl, va_cr, va_cn]; decide)) ?_
      refine pw_aloadn (aX0_code 54 rfl) rfl ?_
      refine pw_iload (aX0_code 55 rfl) rfl ?_
      refine pw_aloadn (aX0_code 56 rfl) rfl ?_
      refine pw_getr (v := .int (FI12 119 1)) (aX0_code 57 rfl) uf_RX0_15 un_RX0_15 rfl ?_
      refine pw_iload (aX0_code 58 rfl) rfl ?_
      refine pw_isub (aX0_code 59 rfl) ?_
      refine pw_iconst (v := (2 : Int32)) (aX0_code 60 rfl) rfl ?_
      refine pw_isub (aX0_code 61 rfl) ?_
      refine pw_callV (Bs := [.int (FI8 119 1), .int (((FI12 119 1) - (FI8 119 1)) - ((2 : Int32)))]) (rest := []) (aX0_code 62 rfl) um_RX0_43 ujX0_patch wc_RX0_43.2.2.2.2 (by decide) (by decide) rfl rfl (fun d => rX0_patch hkb (FI8 119 1) (((FI12 119 1) - (FI8 119 1)) - ((2 : Int32))) n12 sl12 SH12 FI12 FL12 FR12 hok12) (fun v13 n13 sl13 SH13 FI13 FL13 FR13 hok13 _ => ?_)
      show pw _ _ _ _ _ _ _ 105 _ [] _ _
      refine pw_iinc (v := (l3i) + (1 : Int32)) (L2 := [(3, .int ((l3i) + (1 : Int32))), (2, .int ((l2i) &&& (v12))), (4, .int (FI8 119 1)), (0, .ref (base + 119)), (1, va_rf (h_rf base (a1)))]) (aX0_code 63 rfl) rfl rfl (by first | rfl | (simp [x_s1, x_s2, va_cat, va_ci, va_cl, va_cr, va_cn]; done) | (simp [x_s1, x_s2, va_cat, va_ci, va_cl, va_cr, va_cn]; decide)) ?_
      refine pw_goto (tgt := 27) (aX0_code 64 rfl) (by decide) ?_
      exact pw_Li (L2 := [(0, .ref (base + 119)), (1, va_rf (h_rf base (a1))), (2, .int ((l2i) &&& (v12))), (3, .int ((l3i) + (1 : Int32))), (4, .int (FI8 119 1))]) [3, 2, 4, 0, 1] (hK27 ((l2i) &&& (v12)) ((l3i) + (1 : Int32)) (FI8 119 1) n13 sl13 SH13 FI13 FL13 FR13 hok13) ⟨rfl, rfl, rfl, rfl, rfl, trivial⟩
    · skip
      exact pw_Li (L2 := [(0, .ref (base + 119)), (1, va_rf (h_rf base (a1))), (2, .int (l2i)), (3, .int (l3i)), (4, .int (l4i))]) [0, 1, 2, 3, 4] (rX0_code_111 hkb a1 (l2i) (l3i) (l4i) n sl SH FI FL FR hok  ) ⟨rfl, rfl, rfl, rfl, rfl, trivial⟩
  · skip
    exact pw_Li (L2 := [(0, .ref (base + 119)), (1, va_rf (h_rf base (a1))), (2, .int (l2i)), (3, .int (l3i)), (4, .int (l4i))]) [0, 1, 2, 3, 4] (rX0_code_111 hkb a1 (l2i) (l3i) (l4i) n sl SH FI FL FR hok  ) ⟨rfl, rfl, rfl, rfl, rfl, trivial⟩
theorem gX0_code_27 {sk : xK} {base d : Nat}  (hkb : x_kb sk base) (a1 : Option Nat) (N : Nat) :  ∀ (l2i : Int32) (l3i : Int32) (l4i : Int32) (n sl : Nat) (SH : Nat → Nat × Nat) (FI : Nat → Nat → Int32) (FL : Nat → Nat → Int64) (FR : Nat → Nat → Option Nat), pk n SH FR → pw (pj_A base) sk base N d none 2 27 [(0, .ref (base + 119)), (1, va_rf (h_rf base (a1))), (2, .int (l2i)), (3, .int (l3i)), (4, .int (l4i))] [] (n, sl, SH, FI, FL, FR) (GX0_code_27  a1 (N + 1) l2i l3i n sl SH FI FL FR) := by
  induction N with
  | zero => intros; exact pw_0
  | succ N ih => intro   l2i l3i l4i n sl SH FI FL FR hok; exact bX0_code_27 hkb a1 l2i l3i l4i n sl SH FI FL FR hok  (ih  )
theorem rX0_code_27 {sk : xK} {base N d : Nat}  (hkb : x_kb sk base) (a1 : Option Nat) (l2i : Int32) (l3i : Int32) (l4i : Int32) (n sl : Nat) (SH : Nat → Nat × Nat) (FI : Nat → Nat → Int32) (FL : Nat → Nat → Int64) (FR : Nat → Nat → Option Nat) (hok : pk n SH FR)   : pw (pj_A base) sk base N d none 2 27 [(0, .ref (base + 119)), (1, va_rf (h_rf base (a1))), (2, .int (l2i)), (3, .int (l3i)), (4, .int (l4i))] [] (n, sl, SH, FI, FL, FR) (RX0_code_27  a1 l2i l3i n sl SH FI FL FR) := pw_cons (gX0_code_27 hkb a1 N   l2i l3i l4i n sl SH FI FL FR hok) (fun _ _ h => ⟨_, h⟩)
set_option maxHeartbeats 4000000 in
set_option maxRecDepth 100000 in
theorem rX0_code_25 {sk : xK} {base N d : Nat}  (hkb : x_kb sk base) (a1 : Option Nat) (l2i : Int32)  (n sl : Nat) (SH : Nat → Nat × Nat) (FI : Nat → Nat → Int32) (FL : Nat → Nat → Int64) (FR : Nat → Nat → Option Nat) (hok : pk n SH FR)   : pw (pj_A base) sk base N d none 2 25 [(0, .ref (base + 119)), (1, va_rf (h_rf base (a1))), (2, .int (l2i))] [] (n, sl, SH, FI, FL, FR) (RX0_code_25  a1 l2i n sl SH FI FL FR) := by
  unfold RX0_code_25
  refine pw_iconst (v := (0 : Int32)) (aX0_code 15 rfl) rfl ?_
  refine pw_istoren (L2 := [(3, .int ((0 : Int32))), (0, .ref (base + 119)), (1, va_rf (h_rf base (a1))), (2, .int (l2i))]) (aX0_code 16 rfl) (by first | rfl | (simp [x_s1, x_s2, va_cat, va_ci, va_cl, va_cr, va_cn]; done) | (simp [x_s1, x_s2, va_cat, va_ci, va_cl, va_cr, va_cn]; decide)) ?_
  exact pw_Li (L2 := [(0, .ref (base + 119)), (1, va_rf (h_rf base (a1))), (2, .int (l2i)), (3, .int ((0 : Int32))), (4, .int 0)]) [3, 0, 1, 2] (rX0_code_27 hkb a1 (l2i) ((0 : Int32)) 0 n sl SH FI FL FR hok  ) ⟨rfl, rfl, rfl, rfl, trivial⟩
set_option maxHeartbeats 4000000 in
set_option maxRecDepth 100000 in
theorem rX0_code {sk : xK} {base N d : Nat} (hkb : x_kb sk base) (a1 : Option Nat) (n sl : Nat) (SH : Nat → Nat × Nat) (FI : Nat → Nat → Int32) (FL : Nat → Nat → Int64) (FR : Nat → Nat → Option Nat) (hok : pk n SH FR)  : pw (pj_A base) sk base N d none 2 0 [(0, .ref (base + 119)), (1, va_rf (h_rf base (a1)))] [] (n, sl, SH, FI, FL, FR) (RX0_code a1 n sl SH FI FL FR) := by
  unfold RX0_code
  refine pw_aloadn (aX0_code 0 rfl) rfl ?_
  refine pw_iconst (v := (0 : Int32)) (aX0_code 1 rfl) rfl ?_
  refine pw_putri (aX0_code 2 rfl) uf_RX0_15 (fun _ _ _ => rfl) (fun t1 => ?_)
  refine pw_iconst (v := (1 : Int32)) (aX0_code 3 rfl) rfl ?_
  refine pw_istoren (L2 := [(2, .int ((1 : Int32))), (0, .ref (base + 119)), (1, va_rf (h_rf base (a1)))]) (aX0_code 4 rfl) (by first | rfl | (simp [x_s1, x_s2, va_cat, va_ci, va_cl, va_cr, va_cn]; done) | (simp [x_s1, x_s2, va_cat, va_ci, va_cl, va_cr, va_cn]; decide)) ?_
  refine pw_aloadn (aX0_code 5 rfl) rfl ?_
  refine pw_get (o := a1) (v := fun c2 => .int ((h_up FI 119 1 ((0 : Int32))) c2 5)) (aX0_code 6 rfl) uf_RX0_19 un_RX0_19 (fun _ => rfl) (fun c2 hc2 _ tc2 => ?_)
  refine pw_ifne (tgt := 25) (aX0_code 7 rfl) (by decide) (fun b2 => ?_) (fun b2 => ?_)
  · skip
    refine pw_aloadn (aX0_code 8 rfl) rfl ?_
    refine pw_aloadn (aX0_code 9 rfl) rfl ?_
    refine pw_get (o := a1) (v := fun c4 => va_rf (h_rf base (FR c4 4))) (aX0_code 10 rfl) uf_RX0_24 un_RX0_24 (fun _ => rfl) (fun c4 hc4 _ tc4 => ?_)
    refine pw_iconst (v := (0 : Int32)) (aX0_code 11 rfl) rfl ?_
    refine pw_aald (ix := 0) (o := FR c4 4) (aX0_code 12 rfl) rfl (fun c5 hc5 _ gc5 => ?_)
    refine pw_callV (Bs := [va_rf (h_rf base (FR c5 0))]) (L2 := [(0, .ref (base + 119)), (1, va_rf (h_rf base (FR c5 0)))]) (rest := []) (aX0_code 13 rfl) um_RX0_28 ujX0_putLocation wc_RX0_28.2.2.2.2 (by decide) (by decide) rfl (by first | rfl | simp [lv_args, va_cat, va_ci, va_cl, va_cr, va_cn]) (fun d => rX0_putLocation hkb (FR c5 0) n sl SH (h_up FI 119 1 ((0 : Int32))) FL FR hok) (fun v5 n5 sl5 SH5 FI5 FL5 FR5 hok5 _ => ?_)
    show pw _ _ _ _ _ _ _ 24 _ [.int (v5)] _ _
    refine pw_istoren (L2 := [(2, .int (v5)), (0, .ref (base + 119)), (1, va_rf (h_rf base (a1)))]) (aX0_code 14 rfl) (by first | rfl | (simp [x_s1, x_s2, va_cat, va_ci, va_cl, va_cr, va_cn]; done) | (simp [x_s1, x_s2, va_cat, va_ci, va_cl, va_cr, va_cn]; decide)) ?_
    exact pw_Li (L2 := [(0, .ref (base + 119)), (1, va_rf (h_rf base (a1))), (2, .int (v5))]) [2, 0, 1] (rX0_code_25 hkb a1 (v5) n5 sl5 SH5 FI5 FL5 FR5 hok5  ) ⟨rfl, rfl, rfl, trivial⟩
  · skip
    exact pw_Li (L2 := [(0, .ref (base + 119)), (1, va_rf (h_rf base (a1))), (2, .int ((1 : Int32)))]) [2, 0, 1] (rX0_code_25 hkb a1 ((1 : Int32)) n sl SH (h_up FI 119 1 ((0 : Int32))) FL FR hok  ) ⟨rfl, rfl, rfl, trivial⟩
set_option maxHeartbeats 4000000 in
set_option maxRecDepth 100000 in
theorem rX11_tell {sk : xK} {base N d : Nat} (hkb : x_kb sk base) (a1 : Int32) (a2 : Int32) (a3 : Int32) (a4 : Int32) (n sl : Nat) (SH : Nat → Nat × Nat) (FI : Nat → Nat → Int32) (FL : Nat → Nat → Int64) (FR : Nat → Nat → Option Nat) (hok : pk n SH FR)  : pw pj_V sk base N d none 137 0 [(0, .ref (base + 0)), (1, .int (a1)), (2, .int (a2)), (3, .int (a3)), (4, .int (a4))] [] (n, sl, SH, FI, FL, FR) (RX11_tell a1 a2 a3 a4 n sl SH FI FL FR) := by
  unfold RX11_tell
  refine pw_aloadn (aX11_tell 0 rfl) rfl ?_
  refine pw_getr (v := .ref (base + 21)) (aX11_tell 1 rfl) uf_RX11_23 un_RX11_23 (congrArg (fun r => va_rf (h_rf base r)) (q0_8 (hok).2.1)) ?_
  refine pw_iconst (v := (0 : Int32)) (aX11_tell 2 rfl) rfl ?_
  refine pw_iloadn (aX11_tell 3 rfl) rfl ?_
  refine pw_iastr (c := 21) (ix := 0) (aX11_tell 4 rfl) rfl (fun _ => ?_)
  refine pw_aloadn (aX11_tell 5 rfl) rfl ?_
  refine pw_getr (v := .ref (base + 21)) (aX11_tell 6 rfl) uf_RX11_23 un_RX11_23 (congrArg (fun r => va_rf (h_rf base r)) (q0_8 (hok).2.1)) ?_
  refine pw_iconst (v := (1 : Int32)) (aX11_tell 7 rfl) rfl ?_
  refine pw_iloadn (aX11_tell 8 rfl) rfl ?_
  refine pw_ifne (tgt := 20) (aX11_tell 9 rfl) (by decide) (fun b0 => ?_) (fun b0 => ?_)
  · skip
    refine pw_iconst (v := (-1 : Int32)) (aX11_tell 10 rfl) rfl ?_
    refine pw_goto (tgt := 21) (aX11_tell 11 rfl) (by decide) ?_
    refine pw_iastr (c := 21) (ix := 1) (aX11_tell 13 rfl) rfl (fun _ => ?_)
    refine pw_aloadn (aX11_tell 14 rfl) rfl ?_
    refine pw_getr (v := .ref (base + 21)) (aX11_tell 15 rfl) uf_RX11_23 un_RX11_23 (congrArg (fun r => va_rf (h_rf base r)) (q0_8 (hok).2.1)) ?_
    refine pw_iconst (v := (2 : Int32)) (aX11_tell 16 rfl) rfl ?_
    refine pw_iloadn (aX11_tell 17 rfl) rfl ?_
    refine pw_iastr (c := 21) (ix := 2) (aX11_tell 18 rfl) rfl (fun _ => ?_)
    refine pw_aloadn (aX11_tell 19 rfl) rfl ?_
    refine pw_getr (v := .ref (base + 21)) (aX11_tell 20 rfl) uf_RX11_23 un_RX11_23 (congrArg (fun r => va_rf (h_rf base r)) (q0_8 (hok).2.1)) ?_
    refine pw_iconst (v := (3 : Int32)) (aX11_tell 21 rfl) rfl ?_
    refine pw_iload (aX11_tell 22 rfl) rfl ?_
    refine pw_iastr (c := 21) (ix := 3) (aX11_tell 23 rfl) rfl (fun _ => ?_)
    exact pw_vret (aX11_tell 24 rfl) hok
  · skip
    refine pw_iloadn (aX11_tell 12 rfl) rfl ?_
    refine pw_iastr (c := 21) (ix := 1) (aX11_tell 13 rfl) rfl (fun _ => ?_)
    refine pw_aloadn (aX11_tell 14 rfl) rfl ?_
    refine pw_getr (v := .ref (base + 21)) (aX11_tell 15 rfl) uf_RX11_23 un_RX11_23 (congrArg (fun r => va_rf (h_rf base r)) (q0_8 (hok).2.1)) ?_
    refine pw_iconst (v := (2 : Int32)) (aX11_tell 16 rfl) rfl ?_
    refine pw_iloadn (aX11_tell 17 rfl) rfl ?_
    refine pw_iastr (c := 21) (ix := 2) (aX11_tell 18 rfl) rfl (fun _ => ?_)
    refine pw_aloadn (aX11_tell 19 rfl) rfl ?_
    refine pw_getr (v := .ref (base + 21)) (aX11_tell 20 rfl) uf_RX11_23 un_RX11_23 (congrArg (fun r => va_rf (h_rf base r)) (q0_8 (hok).2.1)) ?_
    refine pw_iconst (v := (3 : Int32)) (aX11_tell 21 rfl) rfl ?_
    refine pw_iload (aX11_tell 22 rfl) rfl ?_
    refine pw_iastr (c := 21) (ix := 3) (aX11_tell 23 rfl) rfl (fun _ => ?_)
    exact pw_vret (aX11_tell 24 rfl) hok
set_option maxHeartbeats 4000000 in
set_option maxRecDepth 100000 in
theorem rX11_isVariable {sk : xK} {base N d : Nat} (hkb : x_kb sk base) (a1 : Int32) (n sl : Nat) (SH : Nat → Nat × Nat) (FI : Nat → Nat → Int32) (FL : Nat → Nat → Int64) (FR : Nat → Nat → Option Nat) (hok : pk n SH FR)  : pw pj_I sk base N d none 147 0 [(0, .ref (base + 0)), (1, .int (a1))] [] (n, sl, SH, FI, FL, FR) (RX11_isVariable a1 n sl SH FI FL FR) := by
  unfold RX11_isVariable
  refine pw_iloadn (aX11_isVariable 0 rfl) rfl ?_
  refine pw_iflt (tgt := 25) (aX11_isVariable 1 rfl) (by decide) (fun b0 => ?_) (fun b0 => ?_)
  · skip
    refine pw_iconst (v := (0 : Int32)) (aX11_isVariable 13 rfl) rfl ?_
    exact pw_iret (aX11_isVariable 14 rfl) hok
  · skip
    refine pw_iloadn (aX11_isVariable 2 rfl) rfl ?_
    refine pw_aloadn (aX11_isVariable 3 rfl) rfl ?_
    refine pw_getr (v := .int (FI 0 12)) (aX11_isVariable 4 rfl) uf_RX11_253 un_RX11_253 rfl ?_
    refine pw_icge (tgt := 25) (aX11_isVariable 5 rfl) (by decide) (fun b1 => ?_) (fun b1 => ?_)
    · skip
      refine pw_iloadn (aX11_isVariable 6 rfl) rfl ?_
      refine pw_aloadn (aX11_isVariable 7 rfl) rfl ?_
      refine pw_getr (v := va_rf (h_rf base (FR 0 11))) (aX11_isVariable 8 rfl) uf_RX11_28 un_RX11_28 rfl ?_
      refine pw_alen hkb (o := FR 0 11) (aX11_isVariable 9 rfl) (fun c3 hc3 _ => ?_)
      refine pw_icge (tgt := 25) (aX11_isVariable 10 rfl) (by decide) (fun b3 => ?_) (fun b3 => ?_)
      · skip
        refine pw_iconst (v := (1 : Int32)) (aX11_isVariable 11 rfl) rfl ?_
        refine pw_goto (tgt := 26) (aX11_isVariable 12 rfl) (by decide) ?_
        exact pw_iret (aX11_isVariable 14 rfl) hok
      · skip
        refine pw_iconst (v := (0 : Int32)) (aX11_isVariable 13 rfl) rfl ?_
        exact pw_iret (aX11_isVariable 14 rfl) hok
    · skip
      refine pw_iconst (v := (0 : Int32)) (aX11_isVariable 13 rfl) rfl ?_
      exact pw_iret (aX11_isVariable 14 rfl) hok
set_option maxHeartbeats 4000000 in
set_option maxRecDepth 100000 in
theorem rX11_byteAt {sk : xK} {base N d : Nat} (hkb : x_kb sk base) (a1 : Option Nat) (a2 : Int64) (n sl : Nat) (SH : Nat → Nat × Nat) (FI : Nat → Nat → Int32) (FL : Nat → Nat → Int64) (FR : Nat → Nat → Option Nat) (hok : pk n SH FR)  : pw pj_I sk base N d none 149 0 [(0, va_rf (h_rf base (a1))), (1, .long (a2))] [] (n, sl, SH, FI, FL, FR) (RX11_byteAt a1 a2 n sl SH FI FL FR) := by
  unfold RX11_byteAt
  refine pw_lloadn (aX11_byteAt 0 rfl) rfl ?_
  refine pw_lconst (v := (0 : Int64)) (aX11_byteAt 1 rfl) rfl ?_
  refine pw_lclt (tgt := 14) (aX11_byteAt 2 rfl) (aX11_byteAt 3 rfl) (by decide) (fun b0 => ?_) (fun b0 => ?_)
  · skip
    refine pw_iconst (v := (-1 : Int32)) (aX11_byteAt 10 rfl) rfl ?_
    refine pw_goto (tgt := 22) (aX11_byteAt 11 rfl) (by decide) ?_
    exact pw_iret (aX11_byteAt 16 rfl) hok
  · skip
    refine pw_lloadn (aX11_byteAt 4 rfl) rfl ?_
    refine pw_aloadn (aX11_byteAt 5 rfl) rfl ?_
    refine pw_alen hkb (o := a1) (aX11_byteAt 6 rfl) (fun c2 hc2 _ => ?_)
    refine pw_i2l (aX11_byteAt 7 rfl) ?_
    refine pw_lclt (tgt := 18) (aX11_byteAt 8 rfl) (aX11_byteAt 9 rfl) (by decide) (fun b2 => ?_) (fun b2 => ?_)
    · skip
      refine pw_aloadn (aX11_byteAt 12 rfl) rfl ?_
      refine pw_lloadn (aX11_byteAt 13 rfl) rfl ?_
      refine pw_l2i (aX11_byteAt 14 rfl) ?_
      refine pw_iald (ix := ((a2).toInt32).toInt.toNat) (o := a1) (aX11_byteAt 15 rfl) rfl (fun c4 hc4 _ gc4 => ?_)
      exact pw_iret (aX11_byteAt 16 rfl) hok
    · skip
      refine pw_iconst (v := (-1 : Int32)) (aX11_byteAt 10 rfl) rfl ?_
      refine pw_goto (tgt := 22) (aX11_byteAt 11 rfl) (by decide) ?_
      exact pw_iret (aX11_byteAt 16 rfl) hok
set_option maxHeartbeats 4000000 in
set_option maxRecDepth 100000 in
theorem rX11_variable {sk : xK} {base N d : Nat} (hkb : x_kb sk base) (a1 : Int32) (a2 : Int32) (n sl : Nat) (SH : Nat → Nat × Nat) (FI : Nat → Nat → Int32) (FL : Nat → Nat → Int64) (FR : Nat → Nat → Option Nat) (hok : pk n SH FR)  : pw pj_I sk base N d none 148 0 [(0, .ref (base + 0)), (1, .int (a1)), (2, .int (a2))] [] (n, sl, SH, FI, FL, FR) (RX11_variable a1 a2 n sl SH FI FL FR) := by
  unfold RX11_variable
  refine pw_aloadn (aX11_variable 0 rfl) rfl ?_
  refine pw_iloadn (aX11_variable 1 rfl) rfl ?_
  refine pw_callV (Bs := [.int (a1)]) (rest := []) (aX11_variable 2 rfl) um_RX11_256 ujX11_isVariable wc_RX11_256.2.2.2.2 (by decide) (by decide) rfl rfl (fun d => rX11_isVariable hkb (a1) n sl SH FI FL FR hok) (fun v0 n0 sl0 SH0 FI0 FL0 FR0 hok0 _ => ?_)
  show pw _ _ _ _ _ _ _ 5 _ [.int (v0)] _ _
  refine pw_ifne (tgt := 10) (aX11_variable 3 rfl) (by decide) (fun b1 => ?_) (fun b1 => ?_)
  · skip
    refine pw_iconst (v := (-1 : Int32)) (aX11_variable 4 rfl) rfl ?_
    exact pw_iret (aX11_variable 5 rfl) hok0
  · skip
    refine pw_aloadn (aX11_variable 6 rfl) rfl ?_
    refine pw_getr (v := va_rf (h_rf base (FR0 0 11))) (aX11_variable 7 rfl) uf_RX11_28 un_RX11_28 rfl ?_
    refine pw_iloadn (aX11_variable 8 rfl) rfl ?_
    refine pw_aald (ix := (a1).toInt.toNat) (o := FR0 0 11) (aX11_variable 9 rfl) rfl (fun c3 hc3 _ gc3 => ?_)
    refine pw_astoren (L2 := [(3, va_rf (h_rf base (FR0 c3 (a1).toInt.toNat))), (0, .ref (base + 0)), (1, .int (a1)), (2, .int (a2))]) (aX11_variable 10 rfl) (by first | rfl | (simp [x_s1, x_s2, va_cat, va_ci, va_cl, va_cr, va_cn]; done) | (simp [x_s1, x_s2, va_cat, va_ci, va_cl, va_cr, va_cn]; decide)) ?_
    refine pw_iloadn (aX11_variable 11 rfl) rfl ?_
    refine pw_ifne (tgt := 26) (aX11_variable 12 rfl) (by decide) (fun b3 => ?_) (fun b3 => ?_)
    · skip
      refine pw_aloadn (aX11_variable 13 rfl) rfl ?_
      refine pw_get (o := FR0 c3 (a1).toInt.toNat) (v := fun c5 => .int (FI0 c5 5)) (aX11_variable 14 rfl) uf_RX11_259 un_RX11_259 (fun _ => rfl) (fun c5 hc5 _ tc5 => ?_)
      exact pw_iret (aX11_variable 15 rfl) hok0
    · skip
      refine pw_iloadn (aX11_variable 16 rfl) rfl ?_
      refine pw_iconst (v := (1 : Int32)) (aX11_variable 17 rfl) rfl ?_
      refine pw_icne (tgt := 37) (aX11_variable 18 rfl) (by decide) (fun b5 => ?_) (fun b5 => ?_)
      · skip
        refine pw_aloadn (aX11_variable 19 rfl) rfl ?_
        refine pw_get (o := FR0 c3 (a1).toInt.toNat) (v := fun c7 => va_rf (h_rf base (FR0 c7 6))) (aX11_variable 20 rfl) uf_RX11_250 un_RX11_250 (fun _ => rfl) (fun c7 hc7 _ tc7 => ?_)
        refine pw_alen hkb (o := FR0 c7 6) (aX11_variable 21 rfl) (fun c8 hc8 _ => ?_)
        exact pw_iret (aX11_variable 22 rfl) hok0
      · skip
        refine pw_iloadn (aX11_variable 23 rfl) rfl ?_
        refine pw_iconst (v := (2 : Int32)) (aX11_variable 24 rfl) rfl ?_
        refine pw_icne (tgt := 48) (aX11_variable 25 rfl) (by decide) (fun b8 => ?_) (fun b8 => ?_)
        · skip
          refine pw_aloadn (aX11_variable 26 rfl) rfl ?_
          refine pw_get (o := FR0 c3 (a1).toInt.toNat) (v := fun c10 => va_rf (h_rf base (FR0 c10 0))) (aX11_variable 27 rfl) uf_RX11_262 un_RX11_262 (fun _ => rfl) (fun c10 hc10 _ tc10 => ?_)
          refine pw_alen hkb (o := FR0 c10 0) (aX11_variable 28 rfl) (fun c11 hc11 _ => ?_)
          exact pw_iret (aX11_variable 29 rfl) hok0
        · skip
          refine pw_iloadn (aX11_variable 30 rfl) rfl ?_
          refine pw_sipush (v := (1000 : Int32)) (aX11_variable 31 rfl) rfl ?_
          refine pw_icge (tgt := 71) (aX11_variable 32 rfl) (by decide) (fun b11 => ?_) (fun b11 => ?_)
          · skip
            refine pw_aloadn (aX11_variable 33 rfl) rfl ?_
            refine pw_get (o := FR0 c3 (a1).toInt.toNat) (v := fun c13 => va_rf (h_rf base (FR0 c13 6))) (aX11_variable 34 rfl) uf_RX11_250 un_RX11_250 (fun _ => rfl) (fun c13 hc13 _ tc13 => ?_)
            refine pw_iloadn (aX11_variable 35 rfl) rfl ?_
            refine pw_i2l (aX11_variable 36 rfl) ?_
            refine pw_ldc2 (v := (100 : Int64)) (aX11_variable 37 rfl) uk_RX11_205 ?_
            refine pw_lsub (aX11_variable 38 rfl) ?_
            refine pw_callS (As := [va_rf (h_rf base (FR0 c13 6)), .long (((a2).toInt64) - ((100 : Int64)))]) (L2 := [(0, va_rf (h_rf base (FR0 c13 6))), (1, .long (((a2).toInt64) - ((100 : Int64))))]) (rest := []) (aX11_variable 39 rfl) um_RX11_265 ujX11_byteAt wc_RX11_265.2.2.2.2 (by decide) rfl (by first | rfl | simp [lv_args, va_cat, va_ci, va_cl, va_cr, va_cn]) (fun d => rX11_byteAt hkb (FR0 c13 6) (((a2).toInt64) - ((100 : Int64))) n0 sl0 SH0 FI0 FL0 FR0 hok0) (fun v13 n13 sl13 SH13 FI13 FL13 FR13 hok13 _ => ?_)
            show pw _ _ _ _ _ _ _ 68 _ [.int (v13)] _ _
            refine pw_goto (tgt := 84) (aX11_variable 40 rfl) (by decide) ?_
            exact pw_iret (aX11_variable 48 rfl) hok13
          · skip
            refine pw_aloadn (aX11_variable 41 rfl) rfl ?_
            refine pw_get (o := FR0 c3 (a1).toInt.toNat) (v := fun c15 => va_rf (h_rf base (FR0 c15 0))) (aX11_variable 42 rfl) uf_RX11_262 un_RX11_262 (fun _ => rfl) (fun c15 hc15 _ tc15 => ?_)
            refine pw_iloadn (aX11_variable 43 rfl) rfl ?_
            refine pw_i2l (aX11_variable 44 rfl) ?_
            refine pw_ldc2 (v := (1000 : Int64)) (aX11_variable 45 rfl) uk_RX11_269 ?_
            refine pw_lsub (aX11_variable 46 rfl) ?_
            refine pw_callS (As := [va_rf (h_rf base (FR0 c15 0)), .long (((a2).toInt64) - ((1000 : Int64)))]) (L2 := [(0, va_rf (h_rf base (FR0 c15 0))), (1, .long (((a2).toInt64) - ((1000 : Int64))))]) (rest := []) (aX11_variable 47 rfl) um_RX11_265 ujX11_byteAt wc_RX11_265.2.2.2.2 (by decide) rfl (by first | rfl | simp [lv_args, va_cat, va_ci, va_cl, va_cr, va_cn]) (fun d => rX11_byteAt hkb (FR0 c15 0) (((a2).toInt64) - ((1000 : Int64))) n0 sl0 SH0 FI0 FL0 FR0 hok0) (fun v15 n15 sl15 SH15 FI15 FL15 FR15 hok15 _ => ?_)
            show pw _ _ _ _ _ _ _ 84 _ [.int (v15)] _ _
            exact pw_iret (aX11_variable 48 rfl) hok15
set_option maxHeartbeats 4000000 in
set_option maxRecDepth 100000 in
theorem rX11_compile_130 {sk : xK} {base N d : Nat} {K71 : Int32 → Int32 → Int32 → Nat → Nat → (Nat → Nat × Nat) → (Nat → Nat → Int32) → (Nat → Nat → Int64) → (Nat → Nat → Option Nat) → Int32 → hS → Prop} (hkb : x_kb sk base)  (l2i : Int32) (l3i : Int32) (l4i : Int32) (l1i : Int32) (l5o : Option Nat) (n sl : Nat) (SH : Nat → Nat × Nat) (FI : Nat → Nat → Int32) (FL : Nat → Nat → Int64) (FR : Nat → Nat → Option Nat) (hok : pk n SH FR)  (hK71 : ∀ (l2i : Int32) (l3i : Int32) (l4i : Int32) (l1i : Int32) (l5o : Option Nat) (n sl : Nat) (SH : Nat → Nat × Nat) (FI : Nat → Nat → Int32) (FL : Nat → Nat → Int64) (FR : Nat → Nat → Option Nat), pk n SH FR → pw pj_I sk base N d none 146 71 [(0, .ref (base + 0)), (1, .int (l1i)), (2, .int (l2i)), (3, .int (l3i)), (4, .int (l4i)), (5, va_rf (h_rf base (l5o)))] [] (n, sl, SH, FI, FL, FR) (K71 l2i l3i l4i n sl SH FI FL FR)) : pw pj_I sk base N d none 146 130 [(0, .ref (base + 0)), (1, .int (l1i)), (2, .int (l2i)), (3, .int (l3i)), (4, .int (l4i)), (5, va_rf (h_rf base (l5o)))] [] (n, sl, SH, FI, FL, FR) (RX11_compile_130 K71  l2i l3i l4i n sl SH FI FL FR) := by
  unfold RX11_compile_130
  refine pw_iinc (v := (l4i) + (1 : Int32)) (L2 := [(4, .int ((l4i) + (1 : Int32))), (0, .ref (base + 0)), (1, .int (l1i)), (2, .int (l2i)), (3, .int (l3i)), (5, va_rf (h_rf base (l5o)))]) (aX11_compile 63 rfl) rfl rfl (by first | rfl | (simp [x_s1, x_s2, va_cat, va_ci, va_cl, va_cr, va_cn]; done) | (simp [x_s1, x_s2, va_cat, va_ci, va_cl, va_cr, va_cn]; decide)) ?_
  refine pw_goto (tgt := 71) (aX11_compile 64 rfl) (by decide) ?_
  exact pw_Li (L2 := [(0, .ref (base + 0)), (1, .int (l1i)), (2, .int (l2i)), (3, .int (l3i)), (4, .int ((l4i) + (1 : Int32))), (5, va_rf (h_rf base (l5o)))]) [4, 0, 1, 2, 3, 5] (hK71 (l2i) (l3i) ((l4i) + (1 : Int32)) (l1i) (l5o) n sl SH FI FL FR hok) ⟨rfl, rfl, rfl, rfl, rfl, rfl, trivial⟩
set_option maxHeartbeats 4000000 in
set_option maxRecDepth 100000 in
theorem rX11_compile_136 {sk : xK} {base N d : Nat}  (hkb : x_kb sk base)  (l2i : Int32) (l3i : Int32) (l1i : Int32) (l4i : Int32) (l5o : Option Nat) (n sl : Nat) (SH : Nat → Nat × Nat) (FI : Nat → Nat → Int32) (FL : Nat → Nat → Int64) (FR : Nat → Nat → Option Nat) (hok : pk n SH FR)   : pw pj_I sk base N d none 146 136 [(0, .ref (base + 0)), (1, .int (l1i)), (2, .int (l2i)), (3, .int (l3i)), (4, .int (l4i)), (5, va_rf (h_rf base (l5o)))] [] (n, sl, SH, FI, FL, FR) (RX11_compile_136   l2i l3i n sl SH FI FL FR) := by
  unfold RX11_compile_136
  refine pw_aloadn (aX11_compile 65 rfl) rfl ?_
  refine pw_iloadn (aX11_compile 66 rfl) rfl ?_
  refine pw_iloadn (aX11_compile 67 rfl) rfl ?_
  refine pw_iconst (v := (0 : Int32)) (aX11_compile 68 rfl) rfl ?_
  refine pw_iconst (v := (0 : Int32)) (aX11_compile 69 rfl) rfl ?_
  refine pw_callV (Bs := [.int (l2i), .int (l3i), .int ((0 : Int32)), .int ((0 : Int32))]) (rest := []) (aX11_compile 70 rfl) um_RX11_159 ujX11_tell wc_RX11_159.2.2.2.2 (by decide) (by decide) rfl rfl (fun d => rX11_tell hkb (l2i) (l3i) ((0 : Int32)) ((0 : Int32)) n sl SH FI FL FR hok) (fun v0 n0 sl0 SH0 FI0 FL0 FR0 hok0 _ => ?_)
  show pw _ _ _ _ _ _ _ 144 _ [] _ _
  refine pw_iloadn (aX11_compile 71 rfl) rfl ?_
  refine pw_ifeq (tgt := 150) (aX11_compile 72 rfl) (by decide) (fun b1 => ?_) (fun b1 => ?_)
  · skip
    refine pw_aloadn (aX11_compile 75 rfl) rfl ?_
    refine pw_aloadn (aX11_compile 76 rfl) rfl ?_
    refine pw_getr (v := .ref (base + 110)) (aX11_compile 77 rfl) uf_RX11_58 un_RX11_58 (congrArg (fun r => va_rf (h_rf base r)) (q0_3 (hok0).2.1)) ?_
    refine pw_getr (v := va_rf (h_rf base (FR0 110 2))) (aX11_compile 78 rfl) uf_RX11_245 un_RX11_245 rfl ?_
    refine pw_putrr (p := FR0 110 2) (aX11_compile 79 rfl) uf_RX11_28 (fun _ _ _ => rfl) (fun t3 => ?_)
    refine pw_aloadn (aX11_compile 80 rfl) rfl ?_
    refine pw_aloadn (aX11_compile 81 rfl) rfl ?_
    refine pw_getr (v := .ref (base + 110)) (aX11_compile 82 rfl) uf_RX11_58 un_RX11_58 (congrArg (fun r => va_rf (h_rf base r)) (q0_3 ((pk_w hok0 (by decide))).2.1)) ?_
    refine pw_getr (v := .int (FI0 110 3)) (aX11_compile 83 rfl) uf_RX11_243 un_RX11_243 rfl ?_
    refine pw_putri (aX11_compile 84 rfl) uf_RX11_253 (fun _ _ _ => rfl) (fun t4 => ?_)
    refine pw_aloadn (aX11_compile 85 rfl) rfl ?_
    refine pw_getr (v := .int (FI0 110 3)) (aX11_compile 86 rfl) uf_RX11_253 un_RX11_253 rfl ?_
    exact pw_iret (aX11_compile 87 rfl) (pk_w hok0 (by decide))
  · skip
    refine pw_iconst (v := (-1 : Int32)) (aX11_compile 73 rfl) rfl ?_
    exact pw_iret (aX11_compile 74 rfl) hok0
set_option maxHeartbeats 4000000 in
set_option maxRecDepth 100000 in
theorem bX11_compile_71 {sk : xK} {base N d : Nat} {K71 : Int32 → Int32 → Int32 → Nat → Nat → (Nat → Nat × Nat) → (Nat → Nat → Int32) → (Nat → Nat → Int64) → (Nat → Nat → Option Nat) → Int32 → hS → Prop} (hkb : x_kb sk base)  (l2i : Int32) (l3i : Int32) (l4i : Int32) (l1i : Int32) (l5o : Option Nat) (n sl : Nat) (SH : Nat → Nat × Nat) (FI : Nat → Nat → Int32) (FL : Nat → Nat → Int64) (FR : Nat → Nat → Option Nat) (hok : pk n SH FR)  (hK71 : ∀ (l2i : Int32) (l3i : Int32) (l4i : Int32) (l1i : Int32) (l5o : Option Nat) (n sl : Nat) (SH : Nat → Nat × Nat) (FI : Nat → Nat → Int32) (FL : Nat → Nat → Int64) (FR : Nat → Nat → Option Nat), pk n SH FR → pw pj_I sk base N d none 146 71 [(0, .ref (base + 0)), (1, .int (l1i)), (2, .int (l2i)), (3, .int (l3i)), (4, .int (l4i)), (5, va_rf (h_rf base (l5o)))] [] (n, sl, SH, FI, FL, FR) (K71 l2i l3i l4i n sl SH FI FL FR)) : pw pj_I sk base (N + 1) d none 146 71 [(0, .ref (base + 0)), (1, .int (l1i)), (2, .int (l2i)), (3, .int (l3i)), (4, .int (l4i)), (5, va_rf (h_rf base (l5o)))] [] (n, sl, SH, FI, FL, FR) (BX11_compile_71 K71  l2i l3i l4i n sl SH FI FL FR) := by
  unfold BX11_compile_71
  refine pd_iload (aX11_compile 36 rfl) rfl ?_
  refine pw_aloadn (aX11_compile 37 rfl) rfl ?_
  refine pw_getr (v := .ref (base + 110)) (aX11_compile 38 rfl) uf_RX11_58 un_RX11_58 (congrArg (fun r => va_rf (h_rf base r)) (q0_3 (hok).2.1)) ?_
  refine pw_getr (v := .int (FI 110 3)) (aX11_compile 39 rfl) uf_RX11_243 un_RX11_243 rfl ?_
  refine pw_icge (tgt := 136) (aX11_compile 40 rfl) (by decide) (fun b0 => ?_) (fun b0 => ?_)
  · skip
    refine pw_iloadn (aX11_compile 41 rfl) rfl ?_
    refine pw_ifne (tgt := 136) (aX11_compile 42 rfl) (by decide) (fun b1 => ?_) (fun b1 => ?_)
    · skip
      refine pw_aloadn (aX11_compile 43 rfl) rfl ?_
      refine pw_getr (v := .ref (base + 110)) (aX11_compile 44 rfl) uf_RX11_58 un_RX11_58 (congrArg (fun r => va_rf (h_rf base r)) (q0_3 (hok).2.1)) ?_
      refine pw_getr (v := va_rf (h_rf base (FR 110 2))) (aX11_compile 45 rfl) uf_RX11_245 un_RX11_245 rfl ?_
      refine pw_iload (aX11_compile 46 rfl) rfl ?_
      refine pw_aald (ix := (l4i).toInt.toNat) (o := FR 110 2) (aX11_compile 47 rfl) rfl (fun c3 hc3 _ gc3 => ?_)
      refine pw_astore (L2 := [(5, va_rf (h_rf base (FR c3 (l4i).toInt.toNat))), (0, .ref (base + 0)), (1, .int (l1i)), (2, .int (l2i)), (3, .int (l3i)), (4, .int (l4i))]) (aX11_compile 48 rfl) (by first | rfl | (simp [x_s1, x_s2, va_cat, va_ci, va_cl, va_cr, va_cn]; done) | (simp [x_s1, x_s2, va_cat, va_ci, va_cl, va_cr, va_cn]; decide)) ?_
      refine pw_aload (aX11_compile 49 rfl) rfl ?_
      refine pw_aloadn (aX11_compile 50 rfl) rfl ?_
      refine pw_getr (v := .ref (base + 119)) (aX11_compile 51 rfl) uf_RX11_65 un_RX11_65 (congrArg (fun r => va_rf (h_rf base r)) (q0_4 (hok).2.1)) ?_
      refine pw_aload (aX11_compile 52 rfl) rfl ?_
      refine pw_callV (Bs := [va_rf (h_rf base (FR c3 (l4i).toInt.toNat))]) (L2 := [(0, .ref (base + 119)), (1, va_rf (h_rf base (FR c3 (l4i).toInt.toNat)))]) (rest := [va_rf (h_rf base (FR c3 (l4i).toInt.toNat))]) (aX11_compile 53 rfl) um_RX11_246 ujX0_code wc_RX11_246.2.2.2.2 (by decide) (by decide) rfl (by first | rfl | simp [lv_args, va_cat, va_ci, va_cl, va_cr, va_cn]) (fun d => rX0_code hkb (FR c3 (l4i).toInt.toNat) n sl SH FI FL FR hok) (fun v3 n3 sl3 SH3 FI3 FL3 FR3 hok3 _ => ?_)
      show pw _ _ _ _ _ _ _ 110 _ [va_rf (h_rf base (v3)), va_rf (h_rf base (FR c3 (l4i).toInt.toNat))] _ _
      refine pw_putr (o := FR c3 (l4i).toInt.toNat) (p := v3) (aX11_compile 54 rfl) uf_RX11_250 (fun _ _ _ => rfl) (fun c5 hc5 _ tc5 => ?_)
      refine pw_aload (aX11_compile 55 rfl) rfl ?_
      refine pw_get (o := FR c3 (l4i).toInt.toNat) (v := fun c6 => va_rf (h_rf base ((h_up FR3 c5 6 (v3)) c6 6))) (aX11_compile 56 rfl) uf_RX11_250 un_RX11_250 (fun _ => rfl) (fun c6 hc6 _ tc6 => ?_)
      refine pw_innull (o := (h_up FR3 c5 6 (v3)) c6 6) (tgt := 130) (aX11_compile 57 rfl) (by decide) (fun b6 => ?_) (fun b6 => ?_)
      · skip
        refine pw_bipush (v := (7 : Int32)) (aX11_compile 58 rfl) rfl ?_
        refine pw_istoren (L2 := [(2, .int ((7 : Int32))), (5, va_rf (h_rf base (FR c3 (l4i).toInt.toNat))), (0, .ref (base + 0)), (1, .int (l1i)), (3, .int (l3i)), (4, .int (l4i))]) (aX11_compile 59 rfl) (by first | rfl | (simp [x_s1, x_s2, va_cat, va_ci, va_cl, va_cr, va_cn]; done) | (simp [x_s1, x_s2, va_cat, va_ci, va_cl, va_cr, va_cn]; decide)) ?_
        refine pw_aload (aX11_compile 60 rfl) rfl ?_
        refine pw_get (o := FR c3 (l4i).toInt.toNat) (v := fun c8 => .int (FI3 c8 1)) (aX11_compile 61 rfl) uf_RX11_252 un_RX11_252 (fun _ => rfl) (fun c8 hc8 _ tc8 => ?_)
        refine pw_istoren (L2 := [(3, .int (FI3 c8 1)), (2, .int ((7 : Int32))), (5, va_rf (h_rf base (FR c3 (l4i).toInt.toNat))), (0, .ref (base + 0)), (1, .int (l1i)), (4, .int (l4i))]) (aX11_compile 62 rfl) (by first | rfl | (simp [x_s1, x_s2, va_cat, va_ci, va_cl, va_cr, va_cn]; done) | (simp [x_s1, x_s2, va_cat, va_ci, va_cl, va_cr, va_cn]; decide)) ?_
        exact pw_Li (L2 := [(0, .ref (base + 0)), (1, .int (l1i)), (2, .int ((7 : Int32))), (3, .int (FI3 c8 1)), (4, .int (l4i)), (5, va_rf (h_rf base (FR c3 (l4i).toInt.toNat)))]) [3, 2, 5, 0, 1, 4] (rX11_compile_130 hkb  ((7 : Int32)) (FI3 c8 1) (l4i) (l1i) (FR c3 (l4i).toInt.toNat) n3 sl3 SH3 FI3 FL3 (h_up FR3 c5 6 (v3)) (pk_t hok3 tc5 (by decide))  hK71) ⟨rfl, rfl, rfl, rfl, rfl, rfl, trivial⟩
      · skip
        exact pw_Li (L2 := [(0, .ref (base + 0)), (1, .int (l1i)), (2, .int (l2i)), (3, .int (l3i)), (4, .int (l4i)), (5, va_rf (h_rf base (FR c3 (l4i).toInt.toNat)))]) [5, 0, 1, 2, 3, 4] (rX11_compile_130 hkb  (l2i) (l3i) (l4i) (l1i) (FR c3 (l4i).toInt.toNat) n3 sl3 SH3 FI3 FL3 (h_up FR3 c5 6 (v3)) (pk_t hok3 tc5 (by decide))  hK71) ⟨rfl, rfl, rfl, rfl, rfl, rfl, trivial⟩
    · skip
      exact pw_Li (L2 := [(0, .ref (base + 0)), (1, .int (l1i)), (2, .int (l2i)), (3, .int (l3i)), (4, .int (l4i)), (5, va_rf (h_rf base (l5o)))]) [0, 1, 2, 3, 4, 5] (rX11_compile_136 hkb  (l2i) (l3i) (l1i) (l4i) (l5o) n sl SH FI FL FR hok  ) ⟨rfl, rfl, rfl, rfl, rfl, rfl, trivial⟩
  · skip
    exact pw_Li (L2 := [(0, .ref (base + 0)), (1, .int (l1i)), (2, .int (l2i)), (3, .int (l3i)), (4, .int (l4i)), (5, va_rf (h_rf base (l5o)))]) [0, 1, 2, 3, 4, 5] (rX11_compile_136 hkb  (l2i) (l3i) (l1i) (l4i) (l5o) n sl SH FI FL FR hok  ) ⟨rfl, rfl, rfl, rfl, rfl, rfl, trivial⟩
theorem gX11_compile_71 {sk : xK} {base d : Nat}  (hkb : x_kb sk base)  (N : Nat) :  ∀ (l2i : Int32) (l3i : Int32) (l4i : Int32) (l1i : Int32) (l5o : Option Nat) (n sl : Nat) (SH : Nat → Nat × Nat) (FI : Nat → Nat → Int32) (FL : Nat → Nat → Int64) (FR : Nat → Nat → Option Nat), pk n SH FR → pw pj_I sk base N d none 146 71 [(0, .ref (base + 0)), (1, .int (l1i)), (2, .int (l2i)), (3, .int (l3i)), (4, .int (l4i)), (5, va_rf (h_rf base (l5o)))] [] (n, sl, SH, FI, FL, FR) (GX11_compile_71   (N + 1) l2i l3i l4i n sl SH FI FL FR) := by
  induction N with
  | zero => intros; exact pw_0
  | succ N ih => intro   l2i l3i l4i l1i l5o n sl SH FI FL FR hok; exact bX11_compile_71 hkb  l2i l3i l4i l1i l5o n sl SH FI FL FR hok  (ih  )
theorem rX11_compile_71 {sk : xK} {base N d : Nat}  (hkb : x_kb sk base)  (l2i : Int32) (l3i : Int32) (l4i : Int32) (l1i : Int32) (l5o : Option Nat) (n sl : Nat) (SH : Nat → Nat × Nat) (FI : Nat → Nat → Int32) (FL : Nat → Nat → Int64) (FR : Nat → Nat → Option Nat) (hok : pk n SH FR)   : pw pj_I sk base N d none 146 71 [(0, .ref (base + 0)), (1, .int (l1i)), (2, .int (l2i)), (3, .int (l3i)), (4, .int (l4i)), (5, va_rf (h_rf base (l5o)))] [] (n, sl, SH, FI, FL, FR) (RX11_compile_71   l2i l3i l4i n sl SH FI FL FR) := pw_cons (gX11_compile_71 hkb  N   l2i l3i l4i l1i l5o n sl SH FI FL FR hok) (fun _ _ h => ⟨_, h⟩)
set_option maxHeartbeats 4000000 in
set_option maxRecDepth 100000 in
theorem rX11_compile_52 {sk : xK} {base N d : Nat}  (hkb : x_kb sk base)   (l1i : Int32) (l2i : Int32) (n sl : Nat) (SH : Nat → Nat × Nat) (FI : Nat → Nat → Int32) (FL : Nat → Nat → Int64) (FR : Nat → Nat → Option Nat) (hok : pk n SH FR)   : pw pj_I sk base N d none 146 52 [(0, .ref (base + 0)), (1, .int (l1i)), (2, .int (l2i))] [] (n, sl, SH, FI, FL, FR) (RX11_compile_52    n sl SH FI FL FR) := by
  unfold RX11_compile_52
  refine pw_aloadn (aX11_compile 26 rfl) rfl ?_
  refine pw_getr (v := .ref (base + 110)) (aX11_compile 27 rfl) uf_RX11_58 un_RX11_58 (congrArg (fun r => va_rf (h_rf base r)) (q0_3 (hok).2.1)) ?_
  refine pw_getr (v := .int (FI 110 5)) (aX11_compile 28 rfl) uf_RX11_239 un_RX11_239 rfl ?_
  refine pw_istoren (L2 := [(2, .int (FI 110 5)), (0, .ref (base + 0)), (1, .int (l1i))]) (aX11_compile 29 rfl) rfl ?_
  refine pw_aloadn (aX11_compile 30 rfl) rfl ?_
  refine pw_getr (v := .ref (base + 110)) (aX11_compile 31 rfl) uf_RX11_58 un_RX11_58 (congrArg (fun r => va_rf (h_rf base r)) (q0_3 (hok).2.1)) ?_
  refine pw_getr (v := .int (FI 110 6)) (aX11_compile 32 rfl) uf_RX11_242 un_RX11_242 rfl ?_
  refine pw_istoren (L2 := [(3, .int (FI 110 6)), (2, .int (FI 110 5)), (0, .ref (base + 0)), (1, .int (l1i))]) (aX11_compile 33 rfl) rfl ?_
  refine pw_iconst (v := (0 : Int32)) (aX11_compile 34 rfl) rfl ?_
  refine pw_istore (L2 := [(4, .int ((0 : Int32))), (3, .int (FI 110 6)), (2, .int (FI 110 5)), (0, .ref (base + 0)), (1, .int (l1i))]) (aX11_compile 35 rfl) rfl ?_
  exact pw_Li (L2 := [(0, .ref (base + 0)), (1, .int (l1i)), (2, .int (FI 110 5)), (3, .int (FI 110 6)), (4, .int ((0 : Int32))), (5, va_rf (h_rf base none))]) [4, 3, 2, 0, 1] (rX11_compile_71 hkb  (FI 110 5) (FI 110 6) ((0 : Int32)) (l1i) none n sl SH FI FL FR hok  ) ⟨rfl, rfl, rfl, rfl, rfl, trivial⟩
set_option maxHeartbeats 4000000 in
set_option maxRecDepth 100000 in
theorem bX11_compile_24 {sk : xK} {base N d : Nat} {K24 : Int32 → Int32 → Nat → Nat → (Nat → Nat × Nat) → (Nat → Nat → Int32) → (Nat → Nat → Int64) → (Nat → Nat → Option Nat) → Int32 → hS → Prop} (hkb : x_kb sk base)  (l1i : Int32) (l2i : Int32)  (n sl : Nat) (SH : Nat → Nat × Nat) (FI : Nat → Nat → Int32) (FL : Nat → Nat → Int64) (FR : Nat → Nat → Option Nat) (hok : pk n SH FR)  (hK24 : ∀ (l1i : Int32) (l2i : Int32) (n sl : Nat) (SH : Nat → Nat × Nat) (FI : Nat → Nat → Int32) (FL : Nat → Nat → Int64) (FR : Nat → Nat → Option Nat), pk n SH FR → pw pj_I sk base N d none 146 24 [(0, .ref (base + 0)), (1, .int (l1i)), (2, .int (l2i))] [] (n, sl, SH, FI, FL, FR) (K24 l1i l2i n sl SH FI FL FR)) : pw pj_I sk base (N + 1) d none 146 24 [(0, .ref (base + 0)), (1, .int (l1i)), (2, .int (l2i))] [] (n, sl, SH, FI, FL, FR) (BX11_compile_24 K24  l1i l2i n sl SH FI FL FR) := by
  unfold BX11_compile_24
  refine pd_iloadn (aX11_compile 14 rfl) rfl ?_
  refine pw_iloadn (aX11_compile 15 rfl) rfl ?_
  refine pw_icgt (tgt := 52) (aX11_compile 16 rfl) (by decide) (fun b0 => ?_) (fun b0 => ?_)
  · skip
    exact pw_Li (L2 := [(0, .ref (base + 0)), (1, .int (l1i)), (2, .int (l2i))]) [0, 1, 2] (rX11_compile_52 hkb  (l1i) (l2i) n sl SH FI FL FR hok  ) ⟨rfl, rfl, rfl, trivial⟩
  · skip
    refine pw_aloadn (aX11_compile 17 rfl) rfl ?_
    refine pw_getr (v := .ref (base + 110)) (aX11_compile 18 rfl) uf_RX11_58 un_RX11_58 (congrArg (fun r => va_rf (h_rf base r)) (q0_3 (hok).2.1)) ?_
    refine pw_cf (pw_callV (Bs := []) (rest := []) (aX11_compile 19 rfl) um_RX11_232 ujX4_goesOn wc_RX11_232.2.2.2.2 (by decide) (by decide) rfl rfl (fun d => rX4_goesOn hkb  n sl SH FI FL FR hok) (fun v1 n1 sl1 SH1 FI1 FL1 FR1 _ hC => ?_))
    obtain ⟨rfl, hC⟩ := hC; cases hC
    show pw _ _ _ _ _ _ _ 36 _ [.int (fX4_goesOn  SH FI FL FR)] _ _
    refine pw_ifeq (tgt := 52) (aX11_compile 20 rfl) (by decide) (fun b2 => ?_) (fun b2 => ?_)
    · skip
      exact pw_Li (L2 := [(0, .ref (base + 0)), (1, .int (l1i)), (2, .int (l2i))]) [0, 1, 2] (rX11_compile_52 hkb  (l1i) (l2i) n sl SH FI FL FR hok  ) ⟨rfl, rfl, rfl, trivial⟩
    · skip
      refine pw_aloadn (aX11_compile 21 rfl) rfl ?_
      refine pw_getr (v := .ref (base + 110)) (aX11_compile 22 rfl) uf_RX11_58 un_RX11_58 (congrArg (fun r => va_rf (h_rf base r)) (q0_3 (hok).2.1)) ?_
      refine pw_callV (Bs := []) (rest := []) (aX11_compile 23 rfl) um_RX11_236 ujX4_readDeclaration wc_RX11_236.2.2.2.2 (by decide) (by decide) rfl rfl (fun d => rX4_readDeclaration hkb  n sl SH FI FL FR hok) (fun v3 n3 sl3 SH3 FI3 FL3 FR3 hok3 _ => ?_)
      show pw _ _ _ _ _ _ _ 46 _ [] _ _
      refine pw_iinc (v := (l2i) + (1 : Int32)) (L2 := [(2, .int ((l2i) + (1 : Int32))), (0, .ref (base + 0)), (1, .int (l1i))]) (aX11_compile 24 rfl) rfl rfl rfl ?_
      refine pw_goto (tgt := 24) (aX11_compile 25 rfl) (by decide) ?_
      exact pw_Li (L2 := [(0, .ref (base + 0)), (1, .int (l1i)), (2, .int ((l2i) + (1 : Int32)))]) [2, 0, 1] (hK24 (l1i) ((l2i) + (1 : Int32)) n3 sl3 SH3 FI3 FL3 FR3 hok3) ⟨rfl, rfl, rfl, trivial⟩
theorem gX11_compile_24 {sk : xK} {base d : Nat}  (hkb : x_kb sk base)  (N : Nat) :  ∀ (l1i : Int32) (l2i : Int32)  (n sl : Nat) (SH : Nat → Nat × Nat) (FI : Nat → Nat → Int32) (FL : Nat → Nat → Int64) (FR : Nat → Nat → Option Nat), pk n SH FR → pw pj_I sk base N d none 146 24 [(0, .ref (base + 0)), (1, .int (l1i)), (2, .int (l2i))] [] (n, sl, SH, FI, FL, FR) (GX11_compile_24   (N + 1) l1i l2i n sl SH FI FL FR) := by
  induction N with
  | zero => intros; exact pw_0
  | succ N ih => intro   l1i l2i  n sl SH FI FL FR hok; exact bX11_compile_24 hkb  l1i l2i  n sl SH FI FL FR hok  (ih  )
theorem rX11_compile_24 {sk : xK} {base N d : Nat}  (hkb : x_kb sk base)  (l1i : Int32) (l2i : Int32)  (n sl : Nat) (SH : Nat → Nat × Nat) (FI : Nat → Nat → Int32) (FL : Nat → Nat → Int64) (FR : Nat → Nat → Option Nat) (hok : pk n SH FR)   : pw pj_I sk base N d none 146 24 [(0, .ref (base + 0)), (1, .int (l1i)), (2, .int (l2i))] [] (n, sl, SH, FI, FL, FR) (RX11_compile_24   l1i l2i n sl SH FI FL FR) := pw_cons (gX11_compile_24 hkb  N   l1i l2i  n sl SH FI FL FR hok) (fun _ _ h => ⟨_, h⟩)
set_option maxHeartbeats 4000000 in
set_option maxRecDepth 100000 in
theorem rX11_compile {sk : xK} {base N d : Nat} (hkb : x_kb sk base)  (n sl : Nat) (SH : Nat → Nat × Nat) (FI : Nat → Nat → Int32) (FL : Nat → Nat → Int64) (FR : Nat → Nat → Option Nat) (hok : pk n SH FR)  : pw pj_I sk base N d none 146 0 [(0, .ref (base + 0))] [] (n, sl, SH, FI, FL, FR) (RX11_compile  n sl SH FI FL FR) := by
  unfold RX11_compile
  refine pw_aloadn (aX11_compile 0 rfl) rfl ?_
  refine pw_getr (v := .int (FI 0 9)) (aX11_compile 1 rfl) uf_RX11_69 un_RX11_69 rfl ?_
  refine pw_istoren (L2 := [(1, .int (FI 0 9)), (0, .ref (base + 0))]) (aX11_compile 2 rfl) rfl ?_
  refine pw_aloadn (aX11_compile 3 rfl) rfl ?_
  refine pw_iconst (v := (0 : Int32)) (aX11_compile 4 rfl) rfl ?_
  refine pw_putri (aX11_compile 5 rfl) uf_RX11_69 (fun _ _ _ => rfl) (fun t1 => ?_)
  refine pw_aloadn (aX11_compile 6 rfl) rfl ?_
  refine pw_getr (v := .ref (base + 110)) (aX11_compile 7 rfl) uf_RX11_58 un_RX11_58 (congrArg (fun r => va_rf (h_rf base r)) (q0_3 (hok).2.1)) ?_
  refine pw_aloadn (aX11_compile 8 rfl) rfl ?_
  refine pw_getr (v := .ref (base + 19)) (aX11_compile 9 rfl) uf_RX11_16 un_RX11_16 (congrArg (fun r => va_rf (h_rf base r)) (q0_6 (hok).2.1)) ?_
  refine pw_iloadn (aX11_compile 10 rfl) rfl ?_
  refine pw_callV (Bs := [.ref (base + 19), .int (FI 0 9)]) (rest := []) (aX11_compile 11 rfl) um_RX11_229 ujX4_begin wc_RX11_229.2.2.2.2 (by decide) (by decide) rfl rfl (fun d => rX4_begin hkb (some 19) (FI 0 9) n sl SH (h_up FI 0 9 ((0 : Int32))) FL FR hok) (fun v1 n1 sl1 SH1 FI1 FL1 FR1 hok1 _ => ?_)
  show pw _ _ _ _ _ _ _ 22 _ [] _ _
  refine pw_iconst (v := (0 : Int32)) (aX11_compile 12 rfl) rfl ?_
  refine pw_istoren (L2 := [(2, .int ((0 : Int32))), (1, .int (FI 0 9)), (0, .ref (base + 0))]) (aX11_compile 13 rfl) rfl ?_
  exact pw_Li (L2 := [(0, .ref (base + 0)), (1, .int (FI 0 9)), (2, .int ((0 : Int32)))]) [2, 1, 0] (rX11_compile_24 hkb  (FI 0 9) ((0 : Int32)) n1 sl1 SH1 FI1 FL1 FR1 hok1  ) ⟨rfl, rfl, rfl, trivial⟩
set_option maxHeartbeats 4000000 in
set_option maxRecDepth 100000 in
theorem bX11_feedFour_3 {sk : xK} {base N d : Nat} {K3 : Int32 → Nat → Nat → (Nat → Nat × Nat) → (Nat → Nat → Int32) → (Nat → Nat → Int64) → (Nat → Nat → Option Nat) → Unit → hS → Prop} (hkb : x_kb sk base) (a1 : Int32) (l2i : Int32)  (n sl : Nat) (SH : Nat → Nat × Nat) (FI : Nat → Nat → Int32) (FL : Nat → Nat → Int64) (FR : Nat → Nat → Option Nat) (hok : pk n SH FR)  (hK3 : ∀ (l2i : Int32) (n sl : Nat) (SH : Nat → Nat × Nat) (FI : Nat → Nat → Int32) (FL : Nat → Nat → Int64) (FR : Nat → Nat → Option Nat), pk n SH FR → pw pj_V sk base N d none 119 3 [(0, .ref (base + 0)), (1, .int (a1)), (2, .int (l2i))] [] (n, sl, SH, FI, FL, FR) (K3 l2i n sl SH FI FL FR)) : pw pj_V sk base (N + 1) d none 119 3 [(0, .ref (base + 0)), (1, .int (a1)), (2, .int (l2i))] [] (n, sl, SH, FI, FL, FR) (BX11_feedFour_3 K3 a1 l2i n sl SH FI FL FR) := by
  unfold BX11_feedFour_3
  refine pd_iloadn (aX11_feedFour 2 rfl) rfl ?_
  refine pw_iflt (tgt := 49) (aX11_feedFour 3 rfl) (by decide) (fun b0 => ?_) (fun b0 => ?_)
  · skip
    exact pw_vret (aX11_feedFour 26 rfl) hok
  · skip
    refine pw_aloadn (aX11_feedFour 4 rfl) rfl ?_
    refine pw_getr (v := .int (FI 0 9)) (aX11_feedFour 5 rfl) uf_RX11_69 un_RX11_69 rfl ?_
    refine pw_sipush (v := (1000 : Int32)) (aX11_feedFour 6 rfl) rfl ?_
    refine pw_icge (tgt := 49) (aX11_feedFour 7 rfl) (by decide) (fun b1 => ?_) (fun b1 => ?_)
    · skip
      refine pw_aloadn (aX11_feedFour 8 rfl) rfl ?_
      refine pw_getr (v := .ref (base + 19)) (aX11_feedFour 9 rfl) uf_RX11_16 un_RX11_16 (congrArg (fun r => va_rf (h_rf base r)) (q0_6 (hok).2.1)) ?_
      refine pw_aloadn (aX11_feedFour 10 rfl) rfl ?_
      refine pw_getr (v := .int (FI 0 9)) (aX11_feedFour 11 rfl) uf_RX11_69 un_RX11_69 rfl ?_
      refine pw_iloadn (aX11_feedFour 12 rfl) rfl ?_
      refine pw_iloadn (aX11_feedFour 13 rfl) rfl ?_
      refine pw_iushr (aX11_feedFour 14 rfl) ?_
      refine pw_sipush (v := (255 : Int32)) (aX11_feedFour 15 rfl) rfl ?_
      refine pw_iand (aX11_feedFour 16 rfl) ?_
      refine pw_iastr (c := 19) (ix := (FI 0 9).toInt.toNat) (aX11_feedFour 17 rfl) rfl (fun _ => ?_)
      refine pw_aloadn (aX11_feedFour 18 rfl) rfl ?_
      refine pw_dup (aX11_feedFour 19 rfl) ?_
      refine pw_getr (v := .int (FI 0 9)) (aX11_feedFour 20 rfl) uf_RX11_69 un_RX11_69 rfl ?_
      refine pw_iconst (v := (1 : Int32)) (aX11_feedFour 21 rfl) rfl ?_
      refine pw_iadd (aX11_feedFour 22 rfl) ?_
      refine pw_putri (aX11_feedFour 23 rfl) uf_RX11_69 (fun _ _ _ => rfl) (fun t3 => ?_)
      refine pw_iinc (v := (l2i) + (-8 : Int32)) (L2 := [(2, .int ((l2i) + (-8 : Int32))), (0, .ref (base + 0)), (1, .int (a1))]) (aX11_feedFour 24 rfl) rfl rfl rfl ?_
      refine pw_goto (tgt := 3) (aX11_feedFour 25 rfl) (by decide) ?_
      exact pw_Li (L2 := [(0, .ref (base + 0)), (1, .int (a1)), (2, .int ((l2i) + (-8 : Int32)))]) [2, 0, 1] (hK3 ((l2i) + (-8 : Int32)) n sl SH (h_up (h_up FI 19 (FI 0 9).toInt.toNat ((((a1).toUInt32 >>> ((l2i).toUInt32 &&& Int32.toUInt32 31)).toInt32) &&& ((255 : Int32)))) 0 9 ((FI 0 9) + ((1 : Int32)))) FL FR hok) ⟨rfl, rfl, rfl, trivial⟩
    · skip
      exact pw_vret (aX11_feedFour 26 rfl) hok
theorem gX11_feedFour_3 {sk : xK} {base d : Nat}  (hkb : x_kb sk base) (a1 : Int32) (N : Nat) :  ∀ (l2i : Int32)  (n sl : Nat) (SH : Nat → Nat × Nat) (FI : Nat → Nat → Int32) (FL : Nat → Nat → Int64) (FR : Nat → Nat → Option Nat), pk n SH FR → pw pj_V sk base N d none 119 3 [(0, .ref (base + 0)), (1, .int (a1)), (2, .int (l2i))] [] (n, sl, SH, FI, FL, FR) (GX11_feedFour_3  a1 (N + 1) l2i n sl SH FI FL FR) := by
  induction N with
  | zero => intros; exact pw_0
  | succ N ih => intro   l2i  n sl SH FI FL FR hok; exact bX11_feedFour_3 hkb a1 l2i  n sl SH FI FL FR hok  (ih  )
theorem rX11_feedFour_3 {sk : xK} {base N d : Nat}  (hkb : x_kb sk base) (a1 : Int32) (l2i : Int32)  (n sl : Nat) (SH : Nat → Nat × Nat) (FI : Nat → Nat → Int32) (FL : Nat → Nat → Int64) (FR : Nat → Nat → Option Nat) (hok : pk n SH FR)   : pw pj_V sk base N d none 119 3 [(0, .ref (base + 0)), (1, .int (a1)), (2, .int (l2i))] [] (n, sl, SH, FI, FL, FR) (RX11_feedFour_3  a1 l2i n sl SH FI FL FR) := pw_cons (gX11_feedFour_3 hkb a1 N   l2i  n sl SH FI FL FR hok) (fun _ _ h => ⟨_, h⟩)
set_option maxHeartbeats 4000000 in
set_option maxRecDepth 100000 in
theorem rX11_feedFour {sk : xK} {base N d : Nat} (hkb : x_kb sk base) (a1 : Int32) (n sl : Nat) (SH : Nat → Nat × Nat) (FI : Nat → Nat → Int32) (FL : Nat → Nat → Int64) (FR : Nat → Nat → Option Nat) (hok : pk n SH FR)  : pw pj_V sk base N d none 119 0 [(0, .ref (base + 0)), (1, .int (a1))] [] (n, sl, SH, FI, FL, FR) (RX11_feedFour a1 n sl SH FI FL FR) := by
  unfold RX11_feedFour
  refine pw_bipush (v := (24 : Int32)) (aX11_feedFour 0 rfl) rfl ?_
  refine pw_istoren (L2 := [(2, .int ((24 : Int32))), (0, .ref (base + 0)), (1, .int (a1))]) (aX11_feedFour 1 rfl) rfl ?_
  exact pw_Li (L2 := [(0, .ref (base + 0)), (1, .int (a1)), (2, .int ((24 : Int32)))]) [2, 0, 1] (rX11_feedFour_3 hkb a1 ((24 : Int32)) n sl SH FI FL FR hok  ) ⟨rfl, rfl, rfl, trivial⟩
set_option maxHeartbeats 4000000 in
set_option maxRecDepth 100000 in
theorem rX11_feed {sk : xK} {base N d : Nat} (hkb : x_kb sk base) (a1 : Int32) (a2 : Int32) (a3 : Int32) (a4 : Int32) (a5 : Int32) (n sl : Nat) (SH : Nat → Nat × Nat) (FI : Nat → Nat → Int32) (FL : Nat → Nat → Int64) (FR : Nat → Nat → Option Nat) (hok : pk n SH FR)  : pw pj_I sk base N d none 118 0 [(0, .ref (base + 0)), (1, .int (a1)), (2, .int (a2)), (3, .int (a3)), (4, .int (a4)), (5, .int (a5))] [] (n, sl, SH, FI, FL, FR) (RX11_feed a1 a2 a3 a4 a5 n sl SH FI FL FR) := by
  unfold RX11_feed
  refine pw_aloadn (aX11_feed 0 rfl) rfl ?_
  refine pw_getr (v := .int (FI 0 9)) (aX11_feed 1 rfl) uf_RX11_69 un_RX11_69 rfl ?_
  refine pw_bipush (v := (20 : Int32)) (aX11_feed 2 rfl) rfl ?_
  refine pw_iadd (aX11_feed 3 rfl) ?_
  refine pw_sipush (v := (1000 : Int32)) (aX11_feed 4 rfl) rfl ?_
  refine pw_icle (tgt := 15) (aX11_feed 5 rfl) (by decide) (fun b0 => ?_) (fun b0 => ?_)
  · skip
    refine pw_iconst (v := (-1 : Int32)) (aX11_feed 6 rfl) rfl ?_
    exact pw_iret (aX11_feed 7 rfl) hok
  · skip
    refine pw_aloadn (aX11_feed 8 rfl) rfl ?_
    refine pw_iloadn (aX11_feed 9 rfl) rfl ?_
    refine pw_callV (Bs := [.int (a1)]) (rest := []) (aX11_feed 10 rfl) um_RX11_73 ujX11_feedFour wc_RX11_73.2.2.2.2 (by decide) (by decide) rfl rfl (fun d => rX11_feedFour hkb (a1) n sl SH FI FL FR hok) (fun v1 n1 sl1 SH1 FI1 FL1 FR1 hok1 _ => ?_)
    show pw _ _ _ _ _ _ _ 20 _ [] _ _
    refine pw_aloadn (aX11_feed 11 rfl) rfl ?_
    refine pw_iloadn (aX11_feed 12 rfl) rfl ?_
    refine pw_callV (Bs := [.int (a2)]) (rest := []) (aX11_feed 13 rfl) um_RX11_73 ujX11_feedFour wc_RX11_73.2.2.2.2 (by decide) (by decide) rfl rfl (fun d => rX11_feedFour hkb (a2) n1 sl1 SH1 FI1 FL1 FR1 hok1) (fun v2 n2 sl2 SH2 FI2 FL2 FR2 hok2 _ => ?_)
    show pw _ _ _ _ _ _ _ 25 _ [] _ _
    refine pw_aloadn (aX11_feed 14 rfl) rfl ?_
    refine pw_iloadn (aX11_feed 15 rfl) rfl ?_
    refine pw_callV (Bs := [.int (a3)]) (rest := []) (aX11_feed 16 rfl) um_RX11_73 ujX11_feedFour wc_RX11_73.2.2.2.2 (by decide) (by decide) rfl rfl (fun d => rX11_feedFour hkb (a3) n2 sl2 SH2 FI2 FL2 FR2 hok2) (fun v3 n3 sl3 SH3 FI3 FL3 FR3 hok3 _ => ?_)
    show pw _ _ _ _ _ _ _ 30 _ [] _ _
    refine pw_aloadn (aX11_feed 17 rfl) rfl ?_
    refine pw_iload (aX11_feed 18 rfl) rfl ?_
    refine pw_callV (Bs := [.int (a4)]) (rest := []) (aX11_feed 19 rfl) um_RX11_73 ujX11_feedFour wc_RX11_73.2.2.2.2 (by decide) (by decide) rfl rfl (fun d => rX11_feedFour hkb (a4) n3 sl3 SH3 FI3 FL3 FR3 hok3) (fun v4 n4 sl4 SH4 FI4 FL4 FR4 hok4 _ => ?_)
    show pw _ _ _ _ _ _ _ 36 _ [] _ _
    refine pw_aloadn (aX11_feed 20 rfl) rfl ?_
    refine pw_iload (aX11_feed 21 rfl) rfl ?_
    refine pw_callV (Bs := [.int (a5)]) (rest := []) (aX11_feed 22 rfl) um_RX11_73 ujX11_feedFour wc_RX11_73.2.2.2.2 (by decide) (by decide) rfl rfl (fun d => rX11_feedFour hkb (a5) n4 sl4 SH4 FI4 FL4 FR4 hok4) (fun v5 n5 sl5 SH5 FI5 FL5 FR5 hok5 _ => ?_)
    show pw _ _ _ _ _ _ _ 42 _ [] _ _
    refine pw_aloadn (aX11_feed 23 rfl) rfl ?_
    refine pw_getr (v := .int (FI5 0 9)) (aX11_feed 24 rfl) uf_RX11_69 un_RX11_69 rfl ?_
    exact pw_iret (aX11_feed 25 rfl) hok5
set_option maxHeartbeats 4000000 in
set_option maxRecDepth 100000 in
theorem rX11_end {sk : xK} {base N d : Nat} (hkb : x_kb sk base) (a1 : Int32) (n sl : Nat) (SH : Nat → Nat × Nat) (FI : Nat → Nat → Int32) (FL : Nat → Nat → Int64) (FR : Nat → Nat → Option Nat) (hok : pk n SH FR)  : pw pj_I sk base N d none 120 0 [(0, .ref (base + 0)), (1, .int (a1))] [] (n, sl, SH, FI, FL, FR) (RX11_end a1 n sl SH FI FL FR) := by
  unfold RX11_end
  refine pw_iloadn (aX11_end 0 rfl) rfl ?_
  refine pw_iflt (tgt := 12) (aX11_end 1 rfl) (by decide) (fun b0 => ?_) (fun b0 => ?_)
  · skip
    refine pw_iconst (v := (-1 : Int32)) (aX11_end 6 rfl) rfl ?_
    exact pw_iret (aX11_end 7 rfl) hok
  · skip
    refine pw_iloadn (aX11_end 2 rfl) rfl ?_
    refine pw_aloadn (aX11_end 3 rfl) rfl ?_
    refine pw_getr (v := .int (FI 0 9)) (aX11_end 4 rfl) uf_RX11_69 un_RX11_69 rfl ?_
    refine pw_icle (tgt := 14) (aX11_end 5 rfl) (by decide) (fun b1 => ?_) (fun b1 => ?_)
    · skip
      refine pw_iconst (v := (-1 : Int32)) (aX11_end 6 rfl) rfl ?_
      exact pw_iret (aX11_end 7 rfl) hok
    · skip
      refine pw_aloadn (aX11_end 8 rfl) rfl ?_
      refine pw_iloadn (aX11_end 9 rfl) rfl ?_
      refine pw_putri (aX11_end 10 rfl) uf_RX11_69 (fun _ _ _ => rfl) (fun t3 => ?_)
      refine pw_iloadn (aX11_end 11 rfl) rfl ?_
      exact pw_iret (aX11_end 12 rfl) hok
set_option maxHeartbeats 4000000 in
set_option maxRecDepth 100000 in
theorem rX11_tapeInto {sk : xK} {base N d : Nat} (hkb : x_kb sk base) (a1 : Option Nat) (a2 : Int32) (n sl : Nat) (SH : Nat → Nat × Nat) (FI : Nat → Nat → Int32) (FL : Nat → Nat → Int64) (FR : Nat → Nat → Option Nat) (hok : pk n SH FR)  : pw pj_I sk base N d none 123 0 [(0, .ref (base + 0)), (1, va_rf (h_rf base (a1))), (2, .int (a2))] [] (n, sl, SH, FI, FL, FR) (RX11_tapeInto a1 a2 n sl SH FI FL FR) := by
  unfold RX11_tapeInto
  refine pw_iloadn (aX11_tapeInto 0 rfl) rfl ?_
  refine pw_iflt (tgt := 20) (aX11_tapeInto 1 rfl) (by decide) (fun b0 => ?_) (fun b0 => ?_)
  · skip
    refine pw_iconst (v := (-1 : Int32)) (aX11_tapeInto 10 rfl) rfl ?_
    exact pw_iret (aX11_tapeInto 11 rfl) hok
  · skip
    refine pw_iloadn (aX11_tapeInto 2 rfl) rfl ?_
    refine pw_aloadn (aX11_tapeInto 3 rfl) rfl ?_
    refine pw_alen hkb (o := a1) (aX11_tapeInto 4 rfl) (fun c2 hc2 _ => ?_)
    refine pw_icge (tgt := 20) (aX11_tapeInto 5 rfl) (by decide) (fun b2 => ?_) (fun b2 => ?_)
    · skip
      refine pw_aloadn (aX11_tapeInto 6 rfl) rfl ?_
      refine pw_getr (v := .int (FI 0 9)) (aX11_tapeInto 7 rfl) uf_RX11_69 un_RX11_69 rfl ?_
      refine pw_sipush (v := (600 : Int32)) (aX11_tapeInto 8 rfl) rfl ?_
      refine pw_icle (tgt := 22) (aX11_tapeInto 9 rfl) (by decide) (fun b3 => ?_) (fun b3 => ?_)
      · skip
        refine pw_iconst (v := (-1 : Int32)) (aX11_tapeInto 10 rfl) rfl ?_
        exact pw_iret (aX11_tapeInto 11 rfl) hok
      · skip
        refine pw_aloadn (aX11_tapeInto 12 rfl) rfl ?_
        refine pw_getr (v := .int (FI 0 9)) (aX11_tapeInto 13 rfl) uf_RX11_69 un_RX11_69 rfl ?_
        refine pw_istoren (L2 := [(3, .int (FI 0 9)), (0, .ref (base + 0)), (1, va_rf (h_rf base (a1))), (2, .int (a2))]) (aX11_tapeInto 14 rfl) (by first | rfl | (simp [x_s1, x_s2, va_cat, va_ci, va_cl, va_cr, va_cn]; done) | (simp [x_s1, x_s2, va_cat, va_ci, va_cl, va_cr, va_cn]; decide)) ?_
        refine pw_aloadn (aX11_tapeInto 15 rfl) rfl ?_
        refine pw_iloadn (aX11_tapeInto 16 rfl) rfl ?_
        refine pw_aloadn (aX11_tapeInto 17 rfl) rfl ?_
        refine pw_getr (v := .ref (base + 19)) (aX11_tapeInto 18 rfl) uf_RX11_16 un_RX11_16 (congrArg (fun r => va_rf (h_rf base r)) (q0_6 (hok).2.1)) ?_
        refine pw_iloadn (aX11_tapeInto 19 rfl) rfl ?_
        refine pw_callS (As := [.ref (base + 19), .int (FI 0 9)]) (rest := [.int (a2), va_rf (h_rf base (a1))]) (aX11_tapeInto 20 rfl) um_RX11_88 ujJ7_copyOf_59c91 wc_RX11_88.2.2.2.2 (by decide) rfl rfl (fun d => rJ7_copyOf_59c91 hkb (some 19) (FI 0 9) n sl SH FI FL FR hok) (fun v4 n4 sl4 SH4 FI4 FL4 FR4 hok4 _ => ?_)
        show pw _ _ _ _ _ _ _ 37 _ [va_rf (h_rf base (v4)), .int (a2), va_rf (h_rf base (a1))] _ _
        refine pw_aast (ix := (a2).toInt.toNat) (o := a1) (p := v4) (aX11_tapeInto 21 rfl) rfl (fun c6 wz hc6 _ _ _ gc6 tc6 => ?_)
        refine pw_aloadn (aX11_tapeInto 22 rfl) rfl ?_
        refine pw_iconst (v := (0 : Int32)) (aX11_tapeInto 23 rfl) rfl ?_
        refine pw_putri (aX11_tapeInto 24 rfl) uf_RX11_69 (fun _ _ _ => rfl) (fun t7 => ?_)
        refine pw_iloadn (aX11_tapeInto 25 rfl) rfl ?_
        exact pw_iret (aX11_tapeInto 26 rfl) (pk_ar hok4 tc6)
    · skip
      refine pw_iconst (v := (-1 : Int32)) (aX11_tapeInto 10 rfl) rfl ?_
      exact pw_iret (aX11_tapeInto 11 rfl) hok
set_option maxHeartbeats 4000000 in
set_option maxRecDepth 100000 in
theorem rX11_expression {sk : xK} {base N d : Nat} (hkb : x_kb sk base) (a1 : Int32) (n sl : Nat) (SH : Nat → Nat × Nat) (FI : Nat → Nat → Int32) (FL : Nat → Nat → Int64) (FR : Nat → Nat → Option Nat) (hok : pk n SH FR)  : pw pj_I sk base N d none 121 0 [(0, .ref (base + 0)), (1, .int (a1))] [] (n, sl, SH, FI, FL, FR) (RX11_expression a1 n sl SH FI FL FR) := by
  unfold RX11_expression
  refine pw_aloadn (aX11_expression 0 rfl) rfl ?_
  refine pw_aloadn (aX11_expression 1 rfl) rfl ?_
  refine pw_getr (v := .ref (base + 23)) (aX11_expression 2 rfl) uf_RX11_35 un_RX11_35 (congrArg (fun r => va_rf (h_rf base r)) (q0_0 (hok).2.1)) ?_
  refine pw_getr (v := .ref (base + 26)) (aX11_expression 3 rfl) uf_RX11_77 un_RX11_77 (congrArg (fun r => va_rf (h_rf base r)) (q23_2 (hok).2.1)) ?_
  refine pw_iloadn (aX11_expression 4 rfl) rfl ?_
  refine pw_callV (Bs := [.ref (base + 26), .int (a1)]) (rest := []) (aX11_expression 5 rfl) um_RX11_81 ujX11_tapeInto wc_RX11_81.2.2.2.2 (by decide) (by decide) rfl rfl (fun d => rX11_tapeInto hkb (some 26) (a1) n sl SH FI FL FR hok) (fun v0 n0 sl0 SH0 FI0 FL0 FR0 hok0 _ => ?_)
  show pw _ _ _ _ _ _ _ 12 _ [.int (v0)] _ _
  exact pw_iret (aX11_expression 6 rfl) hok0
set_option maxHeartbeats 4000000 in
set_option maxRecDepth 100000 in
theorem rX11_list {sk : xK} {base N d : Nat} (hkb : x_kb sk base) (a1 : Int32) (n sl : Nat) (SH : Nat → Nat × Nat) (FI : Nat → Nat → Int32) (FL : Nat → Nat → Int64) (FR : Nat → Nat → Option Nat) (hok : pk n SH FR)  : pw pj_I sk base N d none 122 0 [(0, .ref (base + 0)), (1, .int (a1))] [] (n, sl, SH, FI, FL, FR) (RX11_list a1 n sl SH FI FL FR) := by
  unfold RX11_list
  refine pw_aloadn (aX11_list 0 rfl) rfl ?_
  refine pw_aloadn (aX11_list 1 rfl) rfl ?_
  refine pw_getr (v := .ref (base + 23)) (aX11_list 2 rfl) uf_RX11_35 un_RX11_35 (congrArg (fun r => va_rf (h_rf base r)) (q0_0 (hok).2.1)) ?_
  refine pw_getr (v := .ref (base + 43)) (aX11_list 3 rfl) uf_RX11_85 un_RX11_85 (congrArg (fun r => va_rf (h_rf base r)) (q23_3 (hok).2.1)) ?_
  refine pw_iloadn (aX11_list 4 rfl) rfl ?_
  refine pw_callV (Bs := [.ref (base + 43), .int (a1)]) (rest := []) (aX11_list 5 rfl) um_RX11_81 ujX11_tapeInto wc_RX11_81.2.2.2.2 (by decide) (by decide) rfl rfl (fun d => rX11_tapeInto hkb (some 43) (a1) n sl SH FI FL FR hok) (fun v0 n0 sl0 SH0 FI0 FL0 FR0 hok0 _ => ?_)
  show pw _ _ _ _ _ _ _ 12 _ [.int (v0)] _ _
  exact pw_iret (aX11_list 6 rfl) hok0

