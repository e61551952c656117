set_option maxHeartbeats 4000000 in
set_option maxRecDepth 100000 in
theorem bJ7_fill_53178_5 {sk : xK} {base N d : Nat} {K5 : Int32 → Int32 → Nat → Nat → (Nat → Nat × Nat) → (Nat → Nat → Int32) → (Nat → Nat → Int64) → (Nat → Nat → Option Nat) → Unit → hS → Prop} (hkb : x_kb sk base) (a1 : Option Nat) (a2 : Int32) (l2i : Int32) (l3i : Int32)  (n sl : Nat) (SH : Nat → Nat × Nat) (FI : Nat → Nat → Int32) (FL : Nat → Nat → Int64) (FR : Nat → Nat → Option Nat) (hok : pk n SH FR)  (hK5 : ∀ (l2i : Int32) (l3i : Int32) (n sl : Nat) (SH : Nat → Nat × Nat) (FI : Nat → Nat → Int32) (FL : Nat → Nat → Int64) (FR : Nat → Nat → Option Nat), pk n SH FR → pw pj_V sk base N d none 298 5 [(0, va_rf (h_rf base (a1))), (1, .int (a2)), (2, .int (l2i)), (3, .int (l3i))] [] (n, sl, SH, FI, FL, FR) (K5 l2i l3i n sl SH FI FL FR)) : pw pj_V sk base (N + 1) d none 298 5 [(0, va_rf (h_rf base (a1))), (1, .int (a2)), (2, .int (l2i)), (3, .int (l3i))] [] (n, sl, SH, FI, FL, FR) (BJ7_fill_53178_5 K5 a1 a2 l2i l3i n sl SH FI FL FR) := by
  unfold BJ7_fill_53178_5
  refine pd_iloadn (aJ7_fill_53178 5 rfl) rfl ?_
  refine pw_iloadn (aJ7_fill_53178 6 rfl) rfl ?_
  refine pw_icge (tgt := 20) (aJ7_fill_53178 7 rfl) (by decide) (fun b0 => ?_) (fun b0 => ?_)
  · skip
    refine pw_aloadn (aJ7_fill_53178 8 rfl) rfl ?_
    refine pw_iloadn (aJ7_fill_53178 9 rfl) rfl ?_
    refine pw_iloadn (aJ7_fill_53178 10 rfl) rfl ?_
    refine pw_iast (ix := (l2i).toInt.toNat) (o := a1) (aJ7_fill_53178 11 rfl) rfl (fun c2 hc2 _ gc2 => ?_)
    refine pw_iinc (v := (l2i) + (1 : Int32)) (L2 := [(2, .int ((l2i) + (1 : Int32))), (0, va_rf (h_rf base (a1))), (1, .int (a2)), (3, .int (l3i))]) (aJ7_fill_53178 12 rfl) rfl rfl (by first | rfl | (simp [x_s1, x_s2, va_cat, va_ci, va_cl, va_cr, va_cn]; done) | (simp [x_s1, x_s2, va_cat, va_ci, va_cl, va_cr, va_cn]; decide)) ?_
    refine pw_goto (tgt := 5) (aJ7_fill_53178 13 rfl) (by decide) ?_
    exact pw_Li (L2 := [(0, va_rf (h_rf base (a1))), (1, .int (a2)), (2, .int ((l2i) + (1 : Int32))), (3, .int (l3i))]) [2, 0, 1, 3] (hK5 ((l2i) + (1 : Int32)) (l3i) n sl SH (h_up FI c2 (l2i).toInt.toNat (a2)) FL FR hok) ⟨rfl, rfl, rfl, rfl, trivial⟩
  · skip
    exact pw_vret (aJ7_fill_53178 14 rfl) hok
theorem gJ7_fill_53178_5 {sk : xK} {base d : Nat}  (hkb : x_kb sk base) (a1 : Option Nat) (a2 : Int32) (N : Nat) :  ∀ (l2i : Int32) (l3i : Int32)  (n sl : Nat) (SH : Nat → Nat × Nat) (FI : Nat → Nat → Int32) (FL : Nat → Nat → Int64) (FR : Nat → Nat → Option Nat), pk n SH FR → pw pj_V sk base N d none 298 5 [(0, va_rf (h_rf base (a1))), (1, .int (a2)), (2, .int (l2i)), (3, .int (l3i))] [] (n, sl, SH, FI, FL, FR) (GJ7_fill_53178_5  a1 a2 (N + 1) l2i l3i n sl SH FI FL FR) := by
  induction N with
  | zero => intros; exact pw_0
  | succ N ih => intro   l2i l3i  n sl SH FI FL FR hok; exact bJ7_fill_53178_5 hkb a1 a2 l2i l3i  n sl SH FI FL FR hok  (ih  )
theorem rJ7_fill_53178_5 {sk : xK} {base N d : Nat}  (hkb : x_kb sk base) (a1 : Option Nat) (a2 : Int32) (l2i : Int32) (l3i : Int32)  (n sl : Nat) (SH : Nat → Nat × Nat) (FI : Nat → Nat → Int32) (FL : Nat → Nat → Int64) (FR : Nat → Nat → Option Nat) (hok : pk n SH FR)   : pw pj_V sk base N d none 298 5 [(0, va_rf (h_rf base (a1))), (1, .int (a2)), (2, .int (l2i)), (3, .int (l3i))] [] (n, sl, SH, FI, FL, FR) (RJ7_fill_53178_5  a1 a2 l2i l3i n sl SH FI FL FR) := pw_cons (gJ7_fill_53178_5 hkb a1 a2 N   l2i l3i  n sl SH FI FL FR hok) (fun _ _ h => ⟨_, h⟩)
set_option maxHeartbeats 4000000 in
set_option maxRecDepth 100000 in
theorem rJ7_fill_53178 {sk : xK} {base N d : Nat} (hkb : x_kb sk base) (a1 : Option Nat) (a2 : Int32) (n sl : Nat) (SH : Nat → Nat × Nat) (FI : Nat → Nat → Int32) (FL : Nat → Nat → Int64) (FR : Nat → Nat → Option Nat) (hok : pk n SH FR)  : pw pj_V sk base N d none 298 0 [(0, va_rf (h_rf base (a1))), (1, .int (a2))] [] (n, sl, SH, FI, FL, FR) (RJ7_fill_53178 a1 a2 n sl SH FI FL FR) := by
  unfold RJ7_fill_53178
  refine pw_iconst (v := (0 : Int32)) (aJ7_fill_53178 0 rfl) rfl ?_
  refine pw_istoren (L2 := [(2, .int ((0 : Int32))), (0, va_rf (h_rf base (a1))), (1, .int (a2))]) (aJ7_fill_53178 1 rfl) (by first | rfl | (simp [x_s1, x_s2, va_cat, va_ci, va_cl, va_cr, va_cn]; done) | (simp [x_s1, x_s2, va_cat, va_ci, va_cl, va_cr, va_cn]; decide)) ?_
  refine pw_aloadn (aJ7_fill_53178 2 rfl) rfl ?_
  refine pw_alen hkb (o := a1) (aJ7_fill_53178 3 rfl) (fun c1 hc1 _ => ?_)
  refine pw_istoren (L2 := [(3, .int (Int32.ofNat (SH c1).2)), (2, .int ((0 : Int32))), (0, va_rf (h_rf base (a1))), (1, .int (a2))]) (aJ7_fill_53178 4 rfl) (by first | rfl | (simp [x_s1, x_s2, va_cat, va_ci, va_cl, va_cr, va_cn]; done) | (simp [x_s1, x_s2, va_cat, va_ci, va_cl, va_cr, va_cn]; decide)) ?_
  exact pw_Li (L2 := [(0, va_rf (h_rf base (a1))), (1, .int (a2)), (2, .int ((0 : Int32))), (3, .int (Int32.ofNat (SH c1).2))]) [3, 2, 0, 1] (rJ7_fill_53178_5 hkb a1 a2 ((0 : Int32)) (Int32.ofNat (SH c1).2) n sl SH FI FL FR hok  ) ⟨rfl, rfl, rfl, rfl, trivial⟩
set_option maxHeartbeats 4000000 in
set_option maxRecDepth 100000 in
theorem rX11_isFuel {sk : xK} {base N d : Nat} (hkb : x_kb sk base) (a1 : Int32) (n sl : Nat) (SH : Nat → Nat × Nat) (FI : Nat → Nat → Int32) (FL : Nat → Nat → Int64) (FR : Nat → Nat → Option Nat) (hok : pk n SH FR)  : pw pj_I sk base N d none 133 0 [(0, .int (a1))] [] (n, sl, SH, FI, FL, FR) (P_ret (fX11_isFuel a1 SH FI FL FR) (n, sl, SH, FI, FL, FR)) := by
  unfold fX11_isFuel
  refine pw_iloadn (aX11_isFuel 0 rfl) rfl ?_
  refine pw_iconst (v := (1 : Int32)) (aX11_isFuel 1 rfl) rfl ?_
  refine pw_ite (pw_iclt (tgt := 16) (aX11_isFuel 2 rfl) (by decide) (fun b0 => ?_) (fun b0 => ?_))
  · skip
    refine pw_iconst (v := (0 : Int32)) (aX11_isFuel 8 rfl) rfl ?_
    exact pw_iret (aX11_isFuel 9 rfl) hok
  · skip
    refine pw_iloadn (aX11_isFuel 3 rfl) rfl ?_
    refine pw_sipush (v := (1000 : Int32)) (aX11_isFuel 4 rfl) rfl ?_
    refine pw_ite (pw_icgt (tgt := 16) (aX11_isFuel 5 rfl) (by decide) (fun b1 => ?_) (fun b1 => ?_))
    · skip
      refine pw_iconst (v := (0 : Int32)) (aX11_isFuel 8 rfl) rfl ?_
      exact pw_iret (aX11_isFuel 9 rfl) hok
    · skip
      refine pw_iconst (v := (1 : Int32)) (aX11_isFuel 6 rfl) rfl ?_
      refine pw_goto (tgt := 17) (aX11_isFuel 7 rfl) (by decide) ?_
      exact pw_iret (aX11_isFuel 9 rfl) hok
set_option maxHeartbeats 4000000 in
set_option maxRecDepth 100000 in
theorem rX11_isBelow {sk : xK} {base N d : Nat} (hkb : x_kb sk base) (a1 : Int64) (a2 : Int64) (n sl : Nat) (SH : Nat → Nat × Nat) (FI : Nat → Nat → Int32) (FL : Nat → Nat → Int64) (FR : Nat → Nat → Option Nat) (hok : pk n SH FR)  : pw pj_I sk base N d none 138 0 [(0, .long (a1)), (2, .long (a2))] [] (n, sl, SH, FI, FL, FR) (P_ret (fX11_isBelow a1 a2 SH FI FL FR) (n, sl, SH, FI, FL, FR)) := by
  unfold fX11_isBelow
  refine pw_lloadn (aX11_isBelow 0 rfl) rfl ?_
  refine pw_ldc2 (v := (-9223372036854775808 : Int64)) (aX11_isBelow 1 rfl) uk_RX11_182 ?_
  refine pw_ladd (aX11_isBelow 2 rfl) ?_
  refine pw_lloadn (aX11_isBelow 3 rfl) rfl ?_
  refine pw_ldc2 (v := (-9223372036854775808 : Int64)) (aX11_isBelow 4 rfl) uk_RX11_182 ?_
  refine pw_ladd (aX11_isBelow 5 rfl) ?_
  refine pw_ite (pw_lcge (tgt := 18) (aX11_isBelow 6 rfl) (aX11_isBelow 7 rfl) (by decide) (fun b0 => ?_) (fun b0 => ?_))
  · skip
    refine pw_iconst (v := (1 : Int32)) (aX11_isBelow 8 rfl) rfl ?_
    refine pw_goto (tgt := 19) (aX11_isBelow 9 rfl) (by decide) ?_
    exact pw_iret (aX11_isBelow 11 rfl) hok
  · skip
    refine pw_iconst (v := (0 : Int32)) (aX11_isBelow 10 rfl) rfl ?_
    exact pw_iret (aX11_isBelow 11 rfl) hok
set_option maxHeartbeats 4000000 in
set_option maxRecDepth 100000 in
theorem rX11_number_50 {sk : xK} {base N d : Nat} {K5 : Int64 → Int32 → Nat → Nat → (Nat → Nat × Nat) → (Nat → Nat → Int32) → (Nat → Nat → Int64) → (Nat → Nat → Option Nat) → Int64 → hS → Prop} (hkb : x_kb sk base) (a1 : Option Nat) (a2 : Int32) (a3 : Int32) (l3l : Int64) (l5i : Int32)  (n sl : Nat) (SH : Nat → Nat × Nat) (FI : Nat → Nat → Int32) (FL : Nat → Nat → Int64) (FR : Nat → Nat → Option Nat) (hok : pk n SH FR)  (hK5 : ∀ (l3l : Int64) (l5i : Int32) (n sl : Nat) (SH : Nat → Nat × Nat) (FI : Nat → Nat → Int32) (FL : Nat → Nat → Int64) (FR : Nat → Nat → Option Nat), pk n SH FR → pw pj_J sk base N d none 139 5 [(0, va_rf (h_rf base (a1))), (1, .int (a2)), (2, .int (a3)), (3, .long (l3l)), (5, .int (l5i))] [] (n, sl, SH, FI, FL, FR) (K5 l3l l5i n sl SH FI FL FR)) : pw pj_J sk base N d none 139 50 [(0, va_rf (h_rf base (a1))), (1, .int (a2)), (2, .int (a3)), (3, .long (l3l)), (5, .int (l5i))] [] (n, sl, SH, FI, FL, FR) (RX11_number_50 K5 a1 a2 a3 l3l l5i n sl SH FI FL FR) := by
  unfold RX11_number_50
  refine pw_iinc (v := (l5i) + (1 : Int32)) (L2 := [(5, .int ((l5i) + (1 : Int32))), (0, va_rf (h_rf base (a1))), (1, .int (a2)), (2, .int (a3)), (3, .long (l3l))]) (aX11_number 33 rfl) rfl rfl (by first | rfl | (simp [x_s1, x_s2, va_cat, va_ci, va_cl, va_cr, va_cn]; done) | (simp [x_s1, x_s2, va_cat, va_ci, va_cl, va_cr, va_cn]; decide)) ?_
  refine pw_goto (tgt := 5) (aX11_number 34 rfl) (by decide) ?_
  exact pw_Li (L2 := [(0, va_rf (h_rf base (a1))), (1, .int (a2)), (2, .int (a3)), (3, .long (l3l)), (5, .int ((l5i) + (1 : Int32)))]) [4, 0, 1, 2, 3] (hK5 (l3l) ((l5i) + (1 : Int32)) n sl SH FI FL FR hok) ⟨rfl, rfl, rfl, rfl, rfl, trivial⟩
set_option maxHeartbeats 4000000 in
set_option maxRecDepth 100000 in
theorem bX11_number_5 {sk : xK} {base N d : Nat} {K5 : Int64 → Int32 → Nat → Nat → (Nat → Nat × Nat) → (Nat → Nat → Int32) → (Nat → Nat → Int64) → (Nat → Nat → Option Nat) → Int64 → hS → Prop} (hkb : x_kb sk base) (a1 : Option Nat) (a2 : Int32) (a3 : Int32) (l3l : Int64) (l5i : Int32)  (n sl : Nat) (SH : Nat → Nat × Nat) (FI : Nat → Nat → Int32) (FL : Nat → Nat → Int64) (FR : Nat → Nat → Option Nat) (hok : pk n SH FR)  (hK5 : ∀ (l3l : Int64) (l5i : Int32) (n sl : Nat) (SH : Nat → Nat × Nat) (FI : Nat → Nat → Int32) (FL : Nat → Nat → Int64) (FR : Nat → Nat → Option Nat), pk n SH FR → pw pj_J sk base N d none 139 5 [(0, va_rf (h_rf base (a1))), (1, .int (a2)), (2, .int (a3)), (3, .long (l3l)), (5, .int (l5i))] [] (n, sl, SH, FI, FL, FR) (K5 l3l l5i n sl SH FI FL FR)) : pw pj_J sk base (N + 1) d none 139 5 [(0, va_rf (h_rf base (a1))), (1, .int (a2)), (2, .int (a3)), (3, .long (l3l)), (5, .int (l5i))] [] (n, sl, SH, FI, FL, FR) (BX11_number_5 K5 a1 a2 a3 l3l l5i n sl SH FI FL FR) := by
  unfold BX11_number_5
  refine pd_iload (aX11_number 4 rfl) rfl ?_
  refine pw_iloadn (aX11_number 5 rfl) rfl ?_
  refine pw_icge (tgt := 56) (aX11_number 6 rfl) (by decide) (fun b0 => ?_) (fun b0 => ?_)
  · skip
    refine pw_iload (aX11_number 7 rfl) rfl ?_
    refine pw_bipush (v := (8 : Int32)) (aX11_number 8 rfl) rfl ?_
    refine pw_icge (tgt := 56) (aX11_number 9 rfl) (by decide) (fun b1 => ?_) (fun b1 => ?_)
    · skip
      refine pw_iloadn (aX11_number 10 rfl) rfl ?_
      refine pw_iload (aX11_number 11 rfl) rfl ?_
      refine pw_iadd (aX11_number 12 rfl) ?_
      refine pw_iflt (tgt := 50) (aX11_number 13 rfl) (by decide) (fun b2 => ?_) (fun b2 => ?_)
      · skip
        exact pw_Li (L2 := [(0, va_rf (h_rf base (a1))), (1, .int (a2)), (2, .int (a3)), (3, .long (l3l)), (5, .int (l5i))]) [0, 1, 2, 3, 4] (rX11_number_50 hkb a1 a2 a3 (l3l) (l5i) n sl SH FI FL FR hok  hK5) ⟨rfl, rfl, rfl, rfl, rfl, trivial⟩
      · skip
        refine pw_iloadn (aX11_number 14 rfl) rfl ?_
        refine pw_iload (aX11_number 15 rfl) rfl ?_
        refine pw_iadd (aX11_number 16 rfl) ?_
        refine pw_aloadn (aX11_number 17 rfl) rfl ?_
        refine pw_alen hkb (o := a1) (aX11_number 18 rfl) (fun c4 hc4 _ => ?_)
        refine pw_icge (tgt := 50) (aX11_number 19 rfl) (by decide) (fun b4 => ?_) (fun b4 => ?_)
        · skip
          refine pw_lloadn (aX11_number 20 rfl) rfl ?_
          refine pw_aloadn (aX11_number 21 rfl) rfl ?_
          refine pw_iloadn (aX11_number 22 rfl) rfl ?_
          refine pw_iload (aX11_number 23 rfl) rfl ?_
          refine pw_iadd (aX11_number 24 rfl) ?_
          refine pw_iald (ix := ((a2) + (l5i)).toInt.toNat) (o := a1) (aX11_number 25 rfl) rfl (fun c6 hc6 _ gc6 => ?_)
          refine pw_i2l (aX11_number 26 rfl) ?_
          refine pw_bipush (v := (8 : Int32)) (aX11_number 27 rfl) rfl ?_
          refine pw_iload (aX11_number 28 rfl) rfl ?_
          refine pw_imul (aX11_number 29 rfl) ?_
          refine pw_lshl (aX11_number 30 rfl) ?_
          refine pw_lor (aX11_number 31 rfl) ?_
          refine pw_lstoren (L2 := [(3, .long ((l3l) ||| (((FI c6 ((a2) + (l5i)).toInt.toNat).toInt64) <<< ((((8 : Int32)) * (l5i)).toInt64 &&& 63)))), (0, va_rf (h_rf base (a1))), (1, .int (a2)), (2, .int (a3)), (5, .int (l5i))]) (aX11_number 32 rfl) (by first | rfl | (simp [x_s1, x_s2, va_cat, va_ci, va_cl, va_cr, va_cn]; done) | (simp [x_s1, x_s2, va_cat, va_ci, va_cl, va_cr, va_cn]; decide)) ?_
          exact pw_Li (L2 := [(0, va_rf (h_rf base (a1))), (1, .int (a2)), (2, .int (a3)), (3, .long ((l3l) ||| (((FI c6 ((a2) + (l5i)).toInt.toNat).toInt64) <<< ((((8 : Int32)) * (l5i)).toInt64 &&& 63)))), (5, .int (l5i))]) [3, 0, 1, 2, 4] (rX11_number_50 hkb a1 a2 a3 ((l3l) ||| (((FI c6 ((a2) + (l5i)).toInt.toNat).toInt64) <<< ((((8 : Int32)) * (l5i)).toInt64 &&& 63))) (l5i) n sl SH FI FL FR hok  hK5) ⟨rfl, rfl, rfl, rfl, rfl, trivial⟩
        · skip
          exact pw_Li (L2 := [(0, va_rf (h_rf base (a1))), (1, .int (a2)), (2, .int (a3)), (3, .long (l3l)), (5, .int (l5i))]) [0, 1, 2, 3, 4] (rX11_number_50 hkb a1 a2 a3 (l3l) (l5i) n sl SH FI FL FR hok  hK5) ⟨rfl, rfl, rfl, rfl, rfl, trivial⟩
    · skip
      refine pw_lloadn (aX11_number 35 rfl) rfl ?_
      exact pw_lret (aX11_number 36 rfl) hok
  · skip
    refine pw_lloadn (aX11_number 35 rfl) rfl ?_
    exact pw_lret (aX11_number 36 rfl) hok
theorem gX11_number_5 {sk : xK} {base d : Nat}  (hkb : x_kb sk base) (a1 : Option Nat) (a2 : Int32) (a3 : Int32) (N : Nat) :  ∀ (l3l : Int64) (l5i : Int32)  (n sl : Nat) (SH : Nat → Nat × Nat) (FI : Nat → Nat → Int32) (FL : Nat → Nat → Int64) (FR : Nat → Nat → Option Nat), pk n SH FR → pw pj_J sk base N d none 139 5 [(0, va_rf (h_rf base (a1))), (1, .int (a2)), (2, .int (a3)), (3, .long (l3l)), (5, .int (l5i))] [] (n, sl, SH, FI, FL, FR) (GX11_number_5  a1 a2 a3 (N + 1) l3l l5i n sl SH FI FL FR) := by
  induction N with
  | zero => intros; exact pw_0
  | succ N ih => intro   l3l l5i  n sl SH FI FL FR hok; exact bX11_number_5 hkb a1 a2 a3 l3l l5i  n sl SH FI FL FR hok  (ih  )
theorem rX11_number_5 {sk : xK} {base N d : Nat}  (hkb : x_kb sk base) (a1 : Option Nat) (a2 : Int32) (a3 : Int32) (l3l : Int64) (l5i : Int32)  (n sl : Nat) (SH : Nat → Nat × Nat) (FI : Nat → Nat → Int32) (FL : Nat → Nat → Int64) (FR : Nat → Nat → Option Nat) (hok : pk n SH FR)   : pw pj_J sk base N d none 139 5 [(0, va_rf (h_rf base (a1))), (1, .int (a2)), (2, .int (a3)), (3, .long (l3l)), (5, .int (l5i))] [] (n, sl, SH, FI, FL, FR) (RX11_number_5  a1 a2 a3 l3l l5i n sl SH FI FL FR) := pw_cons (gX11_number_5 hkb a1 a2 a3 N   l3l l5i  n sl SH FI FL FR hok) (fun _ _ h => ⟨_, h⟩)
set_option maxHeartbeats 4000000 in
set_option maxRecDepth 100000 in
theorem rX11_number {sk : xK} {base N d : Nat} (hkb : x_kb sk base) (a1 : Option Nat) (a2 : Int32) (a3 : Int32) (n sl : Nat) (SH : Nat → Nat × Nat) (FI : Nat → Nat → Int32) (FL : Nat → Nat → Int64) (FR : Nat → Nat → Option Nat) (hok : pk n SH FR)  : pw pj_J sk base N d none 139 0 [(0, va_rf (h_rf base (a1))), (1, .int (a2)), (2, .int (a3))] [] (n, sl, SH, FI, FL, FR) (RX11_number a1 a2 a3 n sl SH FI FL FR) := by
  unfold RX11_number
  refine pw_lconst (v := (0 : Int64)) (aX11_number 0 rfl) rfl ?_
  refine pw_lstoren (L2 := [(3, .long ((0 : Int64))), (0, va_rf (h_rf base (a1))), (1, .int (a2)), (2, .int (a3))]) (aX11_number 1 rfl) (by first | rfl | (simp [x_s1, x_s2, va_cat, va_ci, va_cl, va_cr, va_cn]; done) | (simp [x_s1, x_s2, va_cat, va_ci, va_cl, va_cr, va_cn]; decide)) ?_
  refine pw_iconst (v := (0 : Int32)) (aX11_number 2 rfl) rfl ?_
  refine pw_istore (L2 := [(5, .int ((0 : Int32))), (3, .long ((0 : Int64))), (0, va_rf (h_rf base (a1))), (1, .int (a2)), (2, .int (a3))]) (aX11_number 3 rfl) (by first | rfl | (simp [x_s1, x_s2, va_cat, va_ci, va_cl, va_cr, va_cn]; done) | (simp [x_s1, x_s2, va_cat, va_ci, va_cl, va_cr, va_cn]; decide)) ?_
  exact pw_Li (L2 := [(0, va_rf (h_rf base (a1))), (1, .int (a2)), (2, .int (a3)), (3, .long ((0 : Int64))), (5, .int ((0 : Int32)))]) [4, 3, 0, 1, 2] (rX11_number_5 hkb a1 a2 a3 ((0 : Int64)) ((0 : Int32)) n sl SH FI FL FR hok  ) ⟨rfl, rfl, rfl, rfl, rfl, trivial⟩
set_option maxHeartbeats 4000000 in
set_option maxRecDepth 100000 in
theorem rX1_registerValue {sk : xK} {base N d : Nat} (hkb : x_kb sk base) (a1 : Int64) (n sl : Nat) (SH : Nat → Nat × Nat) (FI : Nat → Nat → Int32) (FL : Nat → Nat → Int64) (FR : Nat → Nat → Option Nat) (hok : pk n SH FR)  : pw pj_J sk base N d none 20 0 [(0, .ref (base + 23)), (1, .long (a1))] [] (n, sl, SH, FI, FL, FR) (P_ret (fX1_registerValue a1 SH FI FL FR) (n, sl, SH, FI, FL, FR)) := by
  unfold fX1_registerValue
  refine pw_lloadn (aX1_registerValue 0 rfl) rfl ?_
  refine pw_lconst (v := (0 : Int64)) (aX1_registerValue 1 rfl) rfl ?_
  refine pw_ite (pw_lclt (tgt := 17) (aX1_registerValue 2 rfl) (aX1_registerValue 3 rfl) (by decide) (fun b0 => ?_) (fun b0 => ?_))
  · skip
    refine pw_lconst (v := (0 : Int64)) (aX1_registerValue 11 rfl) rfl ?_
    refine pw_goto (tgt := 28) (aX1_registerValue 12 rfl) (by decide) ?_
    exact pw_lret (aX1_registerValue 18 rfl) hok
  · skip
    refine pw_lloadn (aX1_registerValue 4 rfl) rfl ?_
    refine pw_aloadn (aX1_registerValue 5 rfl) rfl ?_
    refine pw_getr (v := .ref (base + 24)) (aX1_registerValue 6 rfl) uf_RX1_11 un_RX1_11 (congrArg (fun r => va_rf (h_rf base r)) (q23_0 (hok).2.1)) ?_
    refine pw_alenr hkb (c := 24) (aX1_registerValue 7 rfl) ?_
    refine pw_i2l (aX1_registerValue 8 rfl) ?_
    refine pw_ite (pw_lclt (tgt := 21) (aX1_registerValue 9 rfl) (aX1_registerValue 10 rfl) (by decide) (fun b1 => ?_) (fun b1 => ?_))
    · skip
      refine pw_aloadn (aX1_registerValue 13 rfl) rfl ?_
      refine pw_getr (v := .ref (base + 24)) (aX1_registerValue 14 rfl) uf_RX1_11 un_RX1_11 (congrArg (fun r => va_rf (h_rf base r)) (q23_0 (hok).2.1)) ?_
      refine pw_lloadn (aX1_registerValue 15 rfl) rfl ?_
      refine pw_l2i (aX1_registerValue 16 rfl) ?_
      refine pw_sd (pw_laldr (c := 24) (ix := ((a1).toInt32).toInt.toNat) (aX1_registerValue 17 rfl) rfl (fun _ => ?_))
      exact pw_lret (aX1_registerValue 18 rfl) hok
    · skip
      refine pw_lconst (v := (0 : Int64)) (aX1_registerValue 11 rfl) rfl ?_
      refine pw_goto (tgt := 28) (aX1_registerValue 12 rfl) (by decide) ?_
      exact pw_lret (aX1_registerValue 18 rfl) hok
set_option maxHeartbeats 4000000 in
set_option maxRecDepth 100000 in
theorem rX1_cfaValue {sk : xK} {base N d : Nat} (hkb : x_kb sk base)  (n sl : Nat) (SH : Nat → Nat × Nat) (FI : Nat → Nat → Int32) (FL : Nat → Nat → Int64) (FR : Nat → Nat → Option Nat) (hok : pk n SH FR)  : pw pj_J sk base N d none 21 0 [(0, .ref (base + 23))] [] (n, sl, SH, FI, FL, FR) (P_ret (fX1_cfaValue  SH FI FL FR) (n, sl, SH, FI, FL, FR)) := by
  unfold fX1_cfaValue
  refine pw_aloadn (aX1_cfaValue 0 rfl) rfl ?_
  refine pw_aloadn (aX1_cfaValue 1 rfl) rfl ?_
  refine pw_getr (v := .int (FI 23 5)) (aX1_cfaValue 2 rfl) uf_RX1_31 un_RX1_31 rfl ?_
  refine pw_i2l (aX1_cfaValue 3 rfl) ?_
  refine pw_cf (pw_callV (Bs := [.long ((FI 23 5).toInt64)]) (rest := []) (aX1_cfaValue 4 rfl) um_RX1_34 ujX1_registerValue wc_RX1_34.2.2.2.2 (by decide) (by decide) rfl rfl (fun d => rX1_registerValue hkb ((FI 23 5).toInt64) n sl SH FI FL FR hok) (fun v0 n0 sl0 SH0 FI0 FL0 FR0 _ hC => ?_))
  obtain ⟨rfl, hC⟩ := hC; cases hC
  show pw _ _ _ _ _ _ _ 9 _ [.long (fX1_registerValue ((FI 23 5).toInt64) SH FI FL FR)] _ _
  refine pw_aloadn (aX1_cfaValue 5 rfl) rfl ?_
  refine pw_getr (v := .long (FL 23 6)) (aX1_cfaValue 6 rfl) uf_RX1_38 un_RX1_38 rfl ?_
  refine pw_ladd (aX1_cfaValue 7 rfl) ?_
  exact pw_lret (aX1_cfaValue 8 rfl) hok
set_option maxHeartbeats 4000000 in
set_option maxRecDepth 100000 in
theorem rX1_hasBytes {sk : xK} {base N d : Nat} (hkb : x_kb sk base) (a1 : Int64) (a2 : Int32) (n sl : Nat) (SH : Nat → Nat × Nat) (FI : Nat → Nat → Int32) (FL : Nat → Nat → Int64) (FR : Nat → Nat → Option Nat) (hok : pk n SH FR)  : pw pj_I sk base N d none 22 0 [(0, .ref (base + 23)), (1, .long (a1)), (3, .int (a2))] [] (n, sl, SH, FI, FL, FR) (P_ret (fX1_hasBytes a1 a2 SH FI FL FR) (n, sl, SH, FI, FL, FR)) := by
  unfold fX1_hasBytes
  refine pw_lloadn (aX1_hasBytes 0 rfl) rfl ?_
  refine pw_lconst (v := (0 : Int64)) (aX1_hasBytes 1 rfl) rfl ?_
  refine pw_ite (pw_lclt (tgt := 23) (aX1_hasBytes 2 rfl) (aX1_hasBytes 3 rfl) (by decide) (fun b0 => ?_) (fun b0 => ?_))
  · skip
    refine pw_iconst (v := (0 : Int32)) (aX1_hasBytes 15 rfl) rfl ?_
    exact pw_iret (aX1_hasBytes 16 rfl) hok
  · skip
    refine pw_lloadn (aX1_hasBytes 4 rfl) rfl ?_
    refine pw_aloadn (aX1_hasBytes 5 rfl) rfl ?_
    refine pw_getr (v := .ref (base + 25)) (aX1_hasBytes 6 rfl) uf_RX1_15 un_RX1_15 (congrArg (fun r => va_rf (h_rf base r)) (q23_1 (hok).2.1)) ?_
    refine pw_alenr hkb (c := 25) (aX1_hasBytes 7 rfl) ?_
    refine pw_iloadn (aX1_hasBytes 8 rfl) rfl ?_
    refine pw_isub (aX1_hasBytes 9 rfl) ?_
    refine pw_i2l (aX1_hasBytes 10 rfl) ?_
    refine pw_ite (pw_lcgt (tgt := 23) (aX1_hasBytes 11 rfl) (aX1_hasBytes 12 rfl) (by decide) (fun b1 => ?_) (fun b1 => ?_))
    · skip
      refine pw_iconst (v := (0 : Int32)) (aX1_hasBytes 15 rfl) rfl ?_
      exact pw_iret (aX1_hasBytes 16 rfl) hok
    · skip
      refine pw_iconst (v := (1 : Int32)) (aX1_hasBytes 13 rfl) rfl ?_
      refine pw_goto (tgt := 24) (aX1_hasBytes 14 rfl) (by decide) ?_
      exact pw_iret (aX1_hasBytes 16 rfl) hok
set_option maxHeartbeats 4000000 in
set_option maxRecDepth 100000 in
theorem rX1_bytes {sk : xK} {base N d : Nat} (hkb : x_kb sk base) (a1 : Int64) (a2 : Int32) (n sl : Nat) (SH : Nat → Nat × Nat) (FI : Nat → Nat → Int32) (FL : Nat → Nat → Int64) (FR : Nat → Nat → Option Nat) (hok : pk n SH FR)  : pw pj_J sk base N d none 23 0 [(0, .ref (base + 23)), (1, .long (a1)), (3, .int (a2))] [] (n, sl, SH, FI, FL, FR) (RX1_bytes a1 a2 n sl SH FI FL FR) := by
  unfold RX1_bytes
  refine pw_aloadn (aX1_bytes 0 rfl) rfl ?_
  refine pw_lloadn (aX1_bytes 1 rfl) rfl ?_
  refine pw_iloadn (aX1_bytes 2 rfl) rfl ?_
  refine pw_cf (pw_callV (Bs := [.long (a1), .int (a2)]) (rest := []) (aX1_bytes 3 rfl) um_RX1_42 ujX1_hasBytes wc_RX1_42.2.2.2.2 (by decide) (by decide) rfl rfl (fun d => rX1_hasBytes hkb (a1) (a2) n sl SH FI FL FR hok) (fun v0 n0 sl0 SH0 FI0 FL0 FR0 _ hC => ?_))
  obtain ⟨rfl, hC⟩ := hC; cases hC
  show pw _ _ _ _ _ _ _ 6 _ [.int (fX1_hasBytes (a1) (a2) SH FI FL FR)] _ _
  refine pw_ifeq (tgt := 22) (aX1_bytes 4 rfl) (by decide) (fun b1 => ?_) (fun b1 => ?_)
  · skip
    refine pw_lconst (v := (0 : Int64)) (aX1_bytes 12 rfl) rfl ?_
    exact pw_lret (aX1_bytes 13 rfl) hok
  · skip
    refine pw_aloadn (aX1_bytes 5 rfl) rfl ?_
    refine pw_getr (v := .ref (base + 25)) (aX1_bytes 6 rfl) uf_RX1_15 un_RX1_15 (congrArg (fun r => va_rf (h_rf base r)) (q23_1 (hok).2.1)) ?_
    refine pw_lloadn (aX1_bytes 7 rfl) rfl ?_
    refine pw_l2i (aX1_bytes 8 rfl) ?_
    refine pw_iloadn (aX1_bytes 9 rfl) rfl ?_
    refine pw_callS (As := [.ref (base + 25), .int ((a1).toInt32), .int (a2)]) (rest := []) (aX1_bytes 10 rfl) um_RX1_46 ujX11_number wc_RX1_46.2.2.2.2 (by decide) rfl rfl (fun d => rX11_number hkb (some 25) ((a1).toInt32) (a2) n sl SH FI FL FR hok) (fun v2 n2 sl2 SH2 FI2 FL2 FR2 hok2 _ => ?_)
    show pw _ _ _ _ _ _ _ 19 _ [.long (v2)] _ _
    refine pw_goto (tgt := 23) (aX1_bytes 11 rfl) (by decide) ?_
    exact pw_lret (aX1_bytes 13 rfl) hok2
set_option maxHeartbeats 4000000 in
set_option maxRecDepth 100000 in
theorem rX5_become {sk : xK} {base N d : Nat} (hkb : x_kb sk base) (c : Nat) (a1 : Int32) (a2 : Int64) (n sl : Nat) (SH : Nat → Nat × Nat) (FI : Nat → Nat → Int32) (FL : Nat → Nat → Int64) (FR : Nat → Nat → Option Nat) (hok : pk n SH FR)  : pw pj_V sk base N d none 59 0 [(0, .ref (base + c)), (1, .int (a1)), (2, .long (a2))] [] (n, sl, SH, FI, FL, FR) (RX5_become c a1 a2 n sl SH FI FL FR) := by
  unfold RX5_become
  refine pw_aloadn (aX5_become 0 rfl) rfl ?_
  refine pw_iloadn (aX5_become 1 rfl) rfl ?_
  refine pw_putri (aX5_become 2 rfl) uf_RX5_9 (fun _ _ _ => rfl) (fun t1 => ?_)
  refine pw_aloadn (aX5_become 3 rfl) rfl ?_
  refine pw_lloadn (aX5_become 4 rfl) rfl ?_
  refine pw_putrl (aX5_become 5 rfl) uf_RX5_15 (fun _ _ _ => rfl) (fun t2 => ?_)
  refine pw_aloadn (aX5_become 6 rfl) rfl ?_
  refine pw_iconst (v := (0 : Int32)) (aX5_become 7 rfl) rfl ?_
  refine pw_putri (aX5_become 8 rfl) uf_RX5_19 (fun _ _ _ => rfl) (fun t3 => ?_)
  refine pw_aloadn (aX5_become 9 rfl) rfl ?_
  refine pw_iconst (v := (0 : Int32)) (aX5_become 10 rfl) rfl ?_
  refine pw_putri (aX5_become 11 rfl) uf_RX5_22 (fun _ _ _ => rfl) (fun t4 => ?_)
  exact pw_vret (aX5_become 12 rfl) hok
set_option maxHeartbeats 4000000 in
set_option maxRecDepth 100000 in
theorem rX5_becomeBlock {sk : xK} {base N d : Nat} (hkb : x_kb sk base) (c : Nat) (a1 : Option Nat) (a2 : Int32) (a3 : Int32) (n sl : Nat) (SH : Nat → Nat × Nat) (FI : Nat → Nat → Int32) (FL : Nat → Nat → Int64) (FR : Nat → Nat → Option Nat) (hok : pk n SH FR)  : pw pj_V sk base N d none 60 0 [(0, .ref (base + c)), (1, va_rf (h_rf base (a1))), (2, .int (a2)), (3, .int (a3))] [] (n, sl, SH, FI, FL, FR) (RX5_becomeBlock c a1 a2 a3 n sl SH FI FL FR) := by
  unfold RX5_becomeBlock
  refine pw_aloadn (aX5_becomeBlock 0 rfl) rfl ?_
  refine pw_iconst (v := (4 : Int32)) (aX5_becomeBlock 1 rfl) rfl ?_
  refine pw_iloadn (aX5_becomeBlock 2 rfl) rfl ?_
  refine pw_i2l (aX5_becomeBlock 3 rfl) ?_
  refine pw_callV (Bs := [.int ((4 : Int32)), .long ((a3).toInt64)]) (rest := []) (aX5_becomeBlock 4 rfl) um_RX5_25 ujX5_become wc_RX5_25.2.2.2.2 (by decide) (by decide) rfl rfl (fun d => rX5_become hkb c ((4 : Int32)) ((a3).toInt64) n sl SH FI FL FR hok) (fun v0 n0 sl0 SH0 FI0 FL0 FR0 hok0 _ => ?_)
  show pw _ _ _ _ _ _ _ 7 _ [] _ _
  refine pw_aloadn (aX5_becomeBlock 5 rfl) rfl ?_
  refine pw_aloadn (aX5_becomeBlock 6 rfl) rfl ?_
  refine pw_putrr (p := a1) (aX5_becomeBlock 7 rfl) uf_RX5_29 (fun _ _ _ => rfl) (fun t2 => ?_)
  refine pw_aloadn (aX5_becomeBlock 8 rfl) rfl ?_
  refine pw_iloadn (aX5_becomeBlock 9 rfl) rfl ?_
  refine pw_putri (aX5_becomeBlock 10 rfl) uf_RX5_33 (fun _ _ _ => rfl) (fun t3 => ?_)
  exact pw_vret (aX5_becomeBlock 11 rfl) (pk_t hok0 t2 (by decide))
set_option maxHeartbeats 4000000 in
set_option maxRecDepth 100000 in
theorem rX5_take {sk : xK} {base N d : Nat} (hkb : x_kb sk base) (c : Nat) (a1 : Option Nat) (n sl : Nat) (SH : Nat → Nat × Nat) (FI : Nat → Nat → Int32) (FL : Nat → Nat → Int64) (FR : Nat → Nat → Option Nat) (hok : pk n SH FR)  : pw pj_V sk base N d none 61 0 [(0, .ref (base + c)), (1, va_rf (h_rf base (a1)))] [] (n, sl, SH, FI, FL, FR) (RX5_take c a1 n sl SH FI FL FR) := by
  unfold RX5_take
  refine pw_aloadn (aX5_take 0 rfl) rfl ?_
  refine pw_aloadn (aX5_take 1 rfl) rfl ?_
  refine pw_get (o := a1) (v := fun c1 => .int (FI c1 0)) (aX5_take 2 rfl) uf_RX5_9 un_RX5_9 (fun _ => rfl) (fun c1 hc1 _ tc1 => ?_)
  refine pw_putri (aX5_take 3 rfl) uf_RX5_9 (fun _ _ _ => rfl) (fun t2 => ?_)
  refine pw_aloadn (aX5_take 4 rfl) rfl ?_
  refine pw_aloadn (aX5_take 5 rfl) rfl ?_
  refine pw_get (o := a1) (v := fun c3 => .long (FL c3 1)) (aX5_take 6 rfl) uf_RX5_15 un_RX5_15 (fun _ => rfl) (fun c3 hc3 _ tc3 => ?_)
  refine pw_putrl (aX5_take 7 rfl) uf_RX5_15 (fun _ _ _ => rfl) (fun t4 => ?_)
  refine pw_aloadn (aX5_take 8 rfl) rfl ?_
  refine pw_aloadn (aX5_take 9 rfl) rfl ?_
  refine pw_get (o := a1) (v := fun c5 => .int ((h_up FI c 0 (FI c1 0)) c5 2)) (aX5_take 10 rfl) uf_RX5_19 un_RX5_19 (fun _ => rfl) (fun c5 hc5 _ tc5 => ?_)
  refine pw_putri (aX5_take 11 rfl) uf_RX5_19 (fun _ _ _ => rfl) (fun t6 => ?_)
  refine pw_aloadn (aX5_take 12 rfl) rfl ?_
  refine pw_aloadn (aX5_take 13 rfl) rfl ?_
  refine pw_get (o := a1) (v := fun c7 => .int ((h_up (h_up FI c 0 (FI c1 0)) c 2 ((h_up FI c 0 (FI c1 0)) c5 2)) c7 3)) (aX5_take 14 rfl) uf_RX5_22 un_RX5_22 (fun _ => rfl) (fun c7 hc7 _ tc7 => ?_)
  refine pw_putri (aX5_take 15 rfl) uf_RX5_22 (fun _ _ _ => rfl) (fun t8 => ?_)
  refine pw_aloadn (aX5_take 16 rfl) rfl ?_
  refine pw_aloadn (aX5_take 17 rfl) rfl ?_
  refine pw_get (o := a1) (v := fun c9 => va_rf (h_rf base (FR c9 4))) (aX5_take 18 rfl) uf_RX5_29 un_RX5_29 (fun _ => rfl) (fun c9 hc9 _ tc9 => ?_)
  refine pw_putrr (p := FR c9 4) (aX5_take 19 rfl) uf_RX5_29 (fun _ _ _ => rfl) (fun t10 => ?_)
  refine pw_aloadn (aX5_take 20 rfl) rfl ?_
  refine pw_aloadn (aX5_take 21 rfl) rfl ?_
  refine pw_get (o := a1) (v := fun c11 => .int ((h_up (h_up (h_up FI c 0 (FI c1 0)) c 2 ((h_up FI c 0 (FI c1 0)) c5 2)) c 3 ((h_up (h_up FI c 0 (FI c1 0)) c 2 ((h_up FI c 0 (FI c1 0)) c5 2)) c7 3)) c11 5)) (aX5_take 22 rfl) uf_RX5_33 un_RX5_33 (fun _ => rfl) (fun c11 hc11 _ tc11 => ?_)
  refine pw_putri (aX5_take 23 rfl) uf_RX5_33 (fun _ _ _ => rfl) (fun t12 => ?_)
  exact pw_vret (aX5_take 24 rfl) (pk_t hok t10 (by decide))
set_option maxHeartbeats 4000000 in
set_option maxRecDepth 100000 in
theorem rX5_blockByte {sk : xK} {base N d : Nat} (hkb : x_kb sk base) (c : Nat) (a1 : Int64) (n sl : Nat) (SH : Nat → Nat × Nat) (FI : Nat → Nat → Int32) (FL : Nat → Nat → Int64) (FR : Nat → Nat → Option Nat) (hok : pk n SH FR)  : pw pj_I sk base N d none 62 0 [(0, .ref (base + c)), (1, .long (a1))] [] (n, sl, SH, FI, FL, FR) (RX5_blockByte c a1 n sl SH FI FL FR) := by
  unfold RX5_blockByte
  refine pw_aloadn (aX5_blockByte 0 rfl) rfl ?_
  refine pw_getr (v := .int (FI c 0)) (aX5_blockByte 1 rfl) uf_RX5_9 un_RX5_9 rfl ?_
  refine pw_iconst (v := (4 : Int32)) (aX5_blockByte 2 rfl) rfl ?_
  refine pw_icne (tgt := 30) (aX5_blockByte 3 rfl) (by decide) (fun b0 => ?_) (fun b0 => ?_)
  · skip
    refine pw_aloadn (aX5_blockByte 4 rfl) rfl ?_
    refine pw_getr (v := va_rf (h_rf base (FR c 4))) (aX5_blockByte 5 rfl) uf_RX5_29 un_RX5_29 rfl ?_
    refine pw_inull (o := FR c 4) (tgt := 30) (aX5_blockByte 6 rfl) (by decide) (fun b1 => ?_) (fun b1 => ?_)
    · skip
      refine pw_iconst (v := (-1 : Int32)) (aX5_blockByte 16 rfl) rfl ?_
      exact pw_iret (aX5_blockByte 17 rfl) hok
    · skip
      refine pw_lloadn (aX5_blockByte 7 rfl) rfl ?_
      refine pw_lconst (v := (0 : Int64)) (aX5_blockByte 8 rfl) rfl ?_
      refine pw_lclt (tgt := 30) (aX5_blockByte 9 rfl) (aX5_blockByte 10 rfl) (by decide) (fun b2 => ?_) (fun b2 => ?_)
      · skip
        refine pw_iconst (v := (-1 : Int32)) (aX5_blockByte 16 rfl) rfl ?_
        exact pw_iret (aX5_blockByte 17 rfl) hok
      · skip
        refine pw_lloadn (aX5_blockByte 11 rfl) rfl ?_
        refine pw_aloadn (aX5_blockByte 12 rfl) rfl ?_
        refine pw_getr (v := .long (FL c 1)) (aX5_blockByte 13 rfl) uf_RX5_15 un_RX5_15 rfl ?_
        refine pw_lclt (tgt := 32) (aX5_blockByte 14 rfl) (aX5_blockByte 15 rfl) (by decide) (fun b3 => ?_) (fun b3 => ?_)
        · skip
          refine pw_aloadn (aX5_blockByte 18 rfl) rfl ?_
          refine pw_getr (v := va_rf (h_rf base (FR c 4))) (aX5_blockByte 19 rfl) uf_RX5_29 un_RX5_29 rfl ?_
          refine pw_aloadn (aX5_blockByte 20 rfl) rfl ?_
          refine pw_getr (v := .int (FI c 5)) (aX5_blockByte 21 rfl) uf_RX5_33 un_RX5_33 rfl ?_
          refine pw_i2l (aX5_blockByte 22 rfl) ?_
          refine pw_lloadn (aX5_blockByte 23 rfl) rfl ?_
          refine pw_ladd (aX5_blockByte 24 rfl) ?_
          refine pw_callS (As := [va_rf (h_rf base (FR c 4)), .long (((FI c 5).toInt64) + (a1))]) (L2 := [(0, va_rf (h_rf base (FR c 4))), (1, .long (((FI c 5).toInt64) + (a1)))]) (rest := []) (aX5_blockByte 25 rfl) um_RX5_36 ujX11_byteAt wc_RX5_36.2.2.2.2 (by decide) rfl (by first | rfl | simp [lv_args, va_cat, va_ci, va_cl, va_cr, va_cn]) (fun d => rX11_byteAt hkb (FR c 4) (((FI c 5).toInt64) + (a1)) n sl SH FI FL FR hok) (fun v4 n4 sl4 SH4 FI4 FL4 FR4 hok4 _ => ?_)
          show pw _ _ _ _ _ _ _ 46 _ [.int (v4)] _ _
          exact pw_iret (aX5_blockByte 26 rfl) hok4
        · skip
          refine pw_iconst (v := (-1 : Int32)) (aX5_blockByte 16 rfl) rfl ?_
          exact pw_iret (aX5_blockByte 17 rfl) hok
  · skip
    refine pw_iconst (v := (-1 : Int32)) (aX5_blockByte 16 rfl) rfl ?_
    exact pw_iret (aX5_blockByte 17 rfl) hok
set_option maxHeartbeats 4000000 in
set_option maxRecDepth 100000 in
theorem rX1_bitOf {sk : xK} {base N d : Nat} (hkb : x_kb sk base) (a1 : Option Nat) (a2 : Int32) (n sl : Nat) (SH : Nat → Nat × Nat) (FI : Nat → Nat → Int32) (FL : Nat → Nat → Int64) (FR : Nat → Nat → Option Nat) (hok : pk n SH FR)  : pw pj_I sk base N d none 24 0 [(0, .ref (base + 23)), (1, va_rf (h_rf base (a1))), (2, .int (a2))] [] (n, sl, SH, FI, FL, FR) (RX1_bitOf a1 a2 n sl SH FI FL FR) := by
  unfold RX1_bitOf
  refine pw_aloadn (aX1_bitOf 0 rfl) rfl ?_
  refine pw_get (o := a1) (v := fun c1 => .int (FI c1 0)) (aX1_bitOf 1 rfl) uf_RX1_50 un_RX1_50 (fun _ => rfl) (fun c1 hc1 _ tc1 => ?_)
  refine pw_tsw aX1_bitOf_4 (fun tg ht => ?_)
  refine pw_case ((FI c1 0).toInt = 1) (fun b2 => ?_) (fun b2 => ?_)
  · have et : tg = 36 := by
      rcases ht with ⟨h8, -⟩ | ⟨-, -, off, ho, ht⟩; { exact absurd h8 (by omega) }; { rw [b2] at ho; have e9 : off = (32 : Int) := (Option.some.inj (show some (32 : Int) = some off from ho)).symm; omega }
    subst et
    refine pw_aloadn (aX1_bitOf 2 rfl) rfl ?_
    refine pw_get (o := a1) (v := fun c3 => .long (FL c3 1)) (aX1_bitOf 3 rfl) uf_RX1_55 un_RX1_55 (fun _ => rfl) (fun c3 hc3 _ tc3 => ?_)
    refine pw_iloadn (aX1_bitOf 4 rfl) rfl ?_
    refine pw_bipush (v := (8 : Int32)) (aX1_bitOf 5 rfl) rfl ?_
    refine pw_idiv (aX1_bitOf 6 rfl) (fun _ => ?_)
    refine pw_i2l (aX1_bitOf 7 rfl) ?_
    refine pw_ladd (aX1_bitOf 8 rfl) ?_
    refine pw_lstoren (L2 := [(3, .long ((FL c3 1) + (((a2) / ((8 : Int32))).toInt64))), (0, .ref (base + 23)), (1, va_rf (h_rf base (a1))), (2, .int (a2))]) (aX1_bitOf 9 rfl) (by first | rfl | (simp [x_s1, x_s2, va_cat, va_ci, va_cl, va_cr, va_cn]; done) | (simp [x_s1, x_s2, va_cat, va_ci, va_cl, va_cr, va_cn]; decide)) ?_
    refine pw_aloadn (aX1_bitOf 10 rfl) rfl ?_
    refine pw_lloadn (aX1_bitOf 11 rfl) rfl ?_
    refine pw_iconst (v := (1 : Int32)) (aX1_bitOf 12 rfl) rfl ?_
    refine pw_cf (pw_callV (Bs := [.long ((FL c3 1) + (((a2) / ((8 : Int32))).toInt64)), .int ((1 : Int32))]) (rest := []) (aX1_bitOf 13 rfl) um_RX1_42 ujX1_hasBytes wc_RX1_42.2.2.2.2 (by decide) (by decide) rfl rfl (fun d => rX1_hasBytes hkb ((FL c3 1) + (((a2) / ((8 : Int32))).toInt64)) ((1 : Int32)) n sl SH FI FL FR hok) (fun v3 n3 sl3 SH3 FI3 FL3 FR3 _ hC => ?_))
    obtain ⟨rfl, hC⟩ := hC; cases hC
    show pw _ _ _ _ _ _ _ 53 _ [.int (fX1_hasBytes ((FL c3 1) + (((a2) / ((8 : Int32))).toInt64)) ((1 : Int32)) SH FI FL FR)] _ _
    refine pw_ifeq (tgt := 73) (aX1_bitOf 14 rfl) (by decide) (fun b4 => ?_) (fun b4 => ?_)
    · skip
      refine pw_iconst (v := (-1 : Int32)) (aX1_bitOf 27 rfl) rfl ?_
      exact pw_iret (aX1_bitOf 28 rfl) hok
    · skip
      refine pw_aloadn (aX1_bitOf 15 rfl) rfl ?_
      refine pw_getr (v := .ref (base + 25)) (aX1_bitOf 16 rfl) uf_RX1_15 un_RX1_15 (congrArg (fun r => va_rf (h_rf base r)) (q23_1 (hok).2.1)) ?_
      refine pw_lloadn (aX1_bitOf 17 rfl) rfl ?_
      refine pw_l2i (aX1_bitOf 18 rfl) ?_
      refine pw_ialdr (c := 25) (ix := (((FL c3 1) + (((a2) / ((8 : Int32))).toInt64)).toInt32).toInt.toNat) (aX1_bitOf 19 rfl) rfl (fun _ => ?_)
      refine pw_iloadn (aX1_bitOf 20 rfl) rfl ?_
      refine pw_bipush (v := (8 : Int32)) (aX1_bitOf 21 rfl) rfl ?_
      refine pw_irem (aX1_bitOf 22 rfl) (fun _ => ?_)
      refine pw_iushr (aX1_bitOf 23 rfl) ?_
      refine pw_iconst (v := (1 : Int32)) (aX1_bitOf 24 rfl) rfl ?_
      refine pw_iand (aX1_bitOf 25 rfl) ?_
      refine pw_goto (tgt := 74) (aX1_bitOf 26 rfl) (by decide) ?_
      exact pw_iret (aX1_bitOf 28 rfl) hok
  skip
  refine pw_case ((FI c1 0).toInt = 2) (fun b6 => ?_) (fun b6 => ?_)
  · have et : tg = 75 := by
      rcases ht with ⟨h8, -⟩ | ⟨-, -, off, ho, ht⟩; { exact absurd h8 (by omega) }; { rw [b6] at ho; have e9 : off = (71 : Int) := (Option.some.inj (show some (71 : Int) = some off from ho)).symm; omega }
    subst et
    refine pw_iloadn (aX1_bitOf 29 rfl) rfl ?_
    refine pw_bipush (v := (64 : Int32)) (aX1_bitOf 30 rfl) rfl ?_
    refine pw_icge (tgt := 97) (aX1_bitOf 31 rfl) (by decide) (fun b6 => ?_) (fun b6 => ?_)
    · skip
      refine pw_aloadn (aX1_bitOf 32 rfl) rfl ?_
      refine pw_aloadn (aX1_bitOf 33 rfl) rfl ?_
      refine pw_get (o := a1) (v := fun c8 => .long (FL c8 1)) (aX1_bitOf 34 rfl) uf_RX1_55 un_RX1_55 (fun _ => rfl) (fun c8 hc8 _ tc8 => ?_)
      refine pw_cf (pw_callV (Bs := [.long (FL c8 1)]) (rest := []) (aX1_bitOf 35 rfl) um_RX1_34 ujX1_registerValue wc_RX1_34.2.2.2.2 (by decide) (by decide) rfl rfl (fun d => rX1_registerValue hkb (FL c8 1) n sl SH FI FL FR hok) (fun v8 n8 sl8 SH8 FI8 FL8 FR8 _ hC => ?_))
      obtain ⟨rfl, hC⟩ := hC; cases hC
      show pw _ _ _ _ _ _ _ 89 _ [.long (fX1_registerValue (FL c8 1) SH FI FL FR)] _ _
      refine pw_iloadn (aX1_bitOf 36 rfl) rfl ?_
      refine pw_lushr (aX1_bitOf 37 rfl) ?_
      refine pw_lconst (v := (1 : Int64)) (aX1_bitOf 38 rfl) rfl ?_
      refine pw_land (aX1_bitOf 39 rfl) ?_
      refine pw_l2i (aX1_bitOf 40 rfl) ?_
      refine pw_goto (tgt := 98) (aX1_bitOf 41 rfl) (by decide) ?_
      exact pw_iret (aX1_bitOf 43 rfl) hok
    · skip
      refine pw_iconst (v := (-1 : Int32)) (aX1_bitOf 42 rfl) rfl ?_
      exact pw_iret (aX1_bitOf 43 rfl) hok
  skip
  refine pw_case ((FI c1 0).toInt = 3) (fun b10 => ?_) (fun b10 => ?_)
  · have et : tg = 99 := by
      rcases ht with ⟨h8, -⟩ | ⟨-, -, off, ho, ht⟩; { exact absurd h8 (by omega) }; { rw [b10] at ho; have e9 : off = (95 : Int) := (Option.some.inj (show some (95 : Int) = some off from ho)).symm; omega }
    subst et
    refine pw_iloadn (aX1_bitOf 44 rfl) rfl ?_
    refine pw_bipush (v := (64 : Int32)) (aX1_bitOf 45 rfl) rfl ?_
    refine pw_icge (tgt := 117) (aX1_bitOf 46 rfl) (by decide) (fun b10 => ?_) (fun b10 => ?_)
    · skip
      refine pw_aloadn (aX1_bitOf 47 rfl) rfl ?_
      refine pw_get (o := a1) (v := fun c12 => .long (FL c12 1)) (aX1_bitOf 48 rfl) uf_RX1_55 un_RX1_55 (fun _ => rfl) (fun c12 hc12 _ tc12 => ?_)
      refine pw_iloadn (aX1_bitOf 49 rfl) rfl ?_
      refine pw_lushr (aX1_bitOf 50 rfl) ?_
      refine pw_lconst (v := (1 : Int64)) (aX1_bitOf 51 rfl) rfl ?_
      refine pw_land (aX1_bitOf 52 rfl) ?_
      refine pw_l2i (aX1_bitOf 53 rfl) ?_
      refine pw_goto (tgt := 118) (aX1_bitOf 54 rfl) (by decide) ?_
      exact pw_iret (aX1_bitOf 56 rfl) hok
    · skip
      refine pw_iconst (v := (-1 : Int32)) (aX1_bitOf 55 rfl) rfl ?_
      exact pw_iret (aX1_bitOf 56 rfl) hok
  skip
  refine pw_case ((FI c1 0).toInt = 4) (fun b13 => ?_) (fun b13 => ?_)
  · have et : tg = 119 := by
      rcases ht with ⟨h8, -⟩ | ⟨-, -, off, ho, ht⟩; { exact absurd h8 (by omega) }; { rw [b13] at ho; have e9 : off = (115 : Int) := (Option.some.inj (show some (115 : Int) = some off from ho)).symm; omega }
    subst et
    refine pw_aloadn (aX1_bitOf 57 rfl) rfl ?_
    refine pw_iloadn (aX1_bitOf 58 rfl) rfl ?_
    refine pw_bipush (v := (8 : Int32)) (aX1_bitOf 59 rfl) rfl ?_
    refine pw_idiv (aX1_bitOf 60 rfl) (fun _ => ?_)
    refine pw_i2l (aX1_bitOf 61 rfl) ?_
    refine pw_callVo (o := a1) (Bs := [.long (((a2) / ((8 : Int32))).toInt64)]) (rest := []) (aX1_bitOf 62 rfl) um_RX1_57 ujX5_blockByte wc_RX1_57.2.2.2.2 (by decide) (by decide) rfl (fun _ => rfl) (fun c14 hc14 d => rX5_blockByte hkb c14 (((a2) / ((8 : Int32))).toInt64) n sl SH FI FL FR hok) (fun c14 hc14 v14 n14 sl14 SH14 FI14 FL14 FR14 hok14 _ => ?_)
    show pw _ _ _ _ _ _ _ 128 _ [.int (v14)] _ _
    refine pw_istore (L2 := [(5, .int (v14)), (0, .ref (base + 23)), (1, va_rf (h_rf base (a1))), (2, .int (a2))]) (aX1_bitOf 63 rfl) (by first | rfl | (simp [x_s1, x_s2, va_cat, va_ci, va_cl, va_cr, va_cn]; done) | (simp [x_s1, x_s2, va_cat, va_ci, va_cl, va_cr, va_cn]; decide)) ?_
    refine pw_iload (aX1_bitOf 64 rfl) rfl ?_
    refine pw_iconst (v := (-1 : Int32)) (aX1_bitOf 65 rfl) rfl ?_
    refine pw_icne (tgt := 140) (aX1_bitOf 66 rfl) (by decide) (fun b15 => ?_) (fun b15 => ?_)
    · skip
      refine pw_iconst (v := (-1 : Int32)) (aX1_bitOf 67 rfl) rfl ?_
      refine pw_goto (tgt := 149) (aX1_bitOf 68 rfl) (by decide) ?_
      exact pw_iret (aX1_bitOf 76 rfl) hok14
    · skip
      refine pw_iload (aX1_bitOf 69 rfl) rfl ?_
      refine pw_iloadn (aX1_bitOf 70 rfl) rfl ?_
      refine pw_bipush (v := (8 : Int32)) (aX1_bitOf 71 rfl) rfl ?_
      refine pw_irem (aX1_bitOf 72 rfl) (fun _ => ?_)
      refine pw_iushr (aX1_bitOf 73 rfl) ?_
      refine pw_iconst (v := (1 : Int32)) (aX1_bitOf 74 rfl) rfl ?_
      refine pw_iand (aX1_bitOf 75 rfl) ?_
      exact pw_iret (aX1_bitOf 76 rfl) hok14
  skip
  have et : tg = 150 := by
    rcases ht with ⟨-, h8⟩ | ⟨h1, h2, -⟩; { omega }; { exfalso; omega }
  subst et
  refine pw_iconst (v := (-1 : Int32)) (aX1_bitOf 77 rfl) rfl ?_
  exact pw_iret (aX1_bitOf 78 rfl) hok
set_option maxHeartbeats 4000000 in
set_option maxRecDepth 100000 in
theorem rX1_putBit {sk : xK} {base N d : Nat} (hkb : x_kb sk base) (a1 : Option Nat) (a2 : Int32) (a3 : Int32) (n sl : Nat) (SH : Nat → Nat × Nat) (FI : Nat → Nat → Int32) (FL : Nat → Nat → Int64) (FR : Nat → Nat → Option Nat) (hok : pk n SH FR)  : pw pj_I sk base N d none 25 0 [(0, .ref (base + 23)), (1, va_rf (h_rf base (a1))), (2, .int (a2)), (3, .int (a3))] [] (n, sl, SH, FI, FL, FR) (RX1_putBit a1 a2 a3 n sl SH FI FL FR) := by
  unfold RX1_putBit
  refine pw_aloadn (aX1_putBit 0 rfl) rfl ?_
  refine pw_get (o := a1) (v := fun c1 => .int (FI c1 0)) (aX1_putBit 1 rfl) uf_RX1_50 un_RX1_50 (fun _ => rfl) (fun c1 hc1 _ tc1 => ?_)
  refine pw_iconst (v := (1 : Int32)) (aX1_putBit 2 rfl) rfl ?_
  refine pw_icne (tgt := 66) (aX1_putBit 3 rfl) (by decide) (fun b1 => ?_) (fun b1 => ?_)
  · skip
    refine pw_aloadn (aX1_putBit 4 rfl) rfl ?_
    refine pw_get (o := a1) (v := fun c3 => .long (FL c3 1)) (aX1_putBit 5 rfl) uf_RX1_55 un_RX1_55 (fun _ => rfl) (fun c3 hc3 _ tc3 => ?_)
    refine pw_iloadn (aX1_putBit 6 rfl) rfl ?_
    refine pw_bipush (v := (8 : Int32)) (aX1_putBit 7 rfl) rfl ?_
    refine pw_idiv (aX1_putBit 8 rfl) (fun _ => ?_)
    refine pw_i2l (aX1_putBit 9 rfl) ?_
    refine pw_ladd (aX1_putBit 10 rfl) ?_
    refine pw_lstore (L2 := [(4, .long ((FL c3 1) + (((a2) / ((8 : Int32))).toInt64))), (0, .ref (base + 23)), (1, va_rf (h_rf base (a1))), (2, .int (a2)), (3, .int (a3))]) (aX1_putBit 11 rfl) (by first | rfl | (simp [x_s1, x_s2, va_cat, va_ci, va_cl, va_cr, va_cn]; done) | (simp [x_s1, x_s2, va_cat, va_ci, va_cl, va_cr, va_cn]; decide)) ?_
    refine pw_aloadn (aX1_putBit 12 rfl) rfl ?_
    refine pw_lload (aX1_putBit 13 rfl) rfl ?_
    refine pw_iconst (v := (1 : Int32)) (aX1_putBit 14 rfl) rfl ?_
    refine pw_cf (pw_callV (Bs := [.long ((FL c3 1) + (((a2) / ((8 : Int32))).toInt64)), .int ((1 : Int32))]) (rest := []) (aX1_putBit 15 rfl) um_RX1_42 ujX1_hasBytes wc_RX1_42.2.2.2.2 (by decide) (by decide) rfl rfl (fun d => rX1_hasBytes hkb ((FL c3 1) + (((a2) / ((8 : Int32))).toInt64)) ((1 : Int32)) n sl SH FI FL FR hok) (fun v3 n3 sl3 SH3 FI3 FL3 FR3 _ hC => ?_))
    obtain ⟨rfl, hC⟩ := hC; cases hC
    show pw _ _ _ _ _ _ _ 27 _ [.int (fX1_hasBytes ((FL c3 1) + (((a2) / ((8 : Int32))).toInt64)) ((1 : Int32)) SH FI FL FR)] _ _
    refine pw_ifne (tgt := 32) (aX1_putBit 16 rfl) (by decide) (fun b4 => ?_) (fun b4 => ?_)
    · skip
      refine pw_iconst (v := (0 : Int32)) (aX1_putBit 17 rfl) rfl ?_
      exact pw_iret (aX1_putBit 18 rfl) hok
    · skip
      refine pw_aloadn (aX1_putBit 19 rfl) rfl ?_
      refine pw_getr (v := .ref (base + 25)) (aX1_putBit 20 rfl) uf_RX1_15 un_RX1_15 (congrArg (fun r => va_rf (h_rf base r)) (q23_1 (hok).2.1)) ?_
      refine pw_lload (aX1_putBit 21 rfl) rfl ?_
      refine pw_l2i (aX1_putBit 22 rfl) ?_
      refine pw_aloadn (aX1_putBit 23 rfl) rfl ?_
      refine pw_getr (v := .ref (base + 25)) (aX1_putBit 24 rfl) uf_RX1_15 un_RX1_15 (congrArg (fun r => va_rf (h_rf base r)) (q23_1 (hok).2.1)) ?_
      refine pw_lload (aX1_putBit 25 rfl) rfl ?_
      refine pw_l2i (aX1_putBit 26 rfl) ?_
      refine pw_ialdr (c := 25) (ix := (((FL c3 1) + (((a2) / ((8 : Int32))).toInt64)).toInt32).toInt.toNat) (aX1_putBit 27 rfl) rfl (fun _ => ?_)
      refine pw_iconst (v := (1 : Int32)) (aX1_putBit 28 rfl) rfl ?_
      refine pw_iloadn (aX1_putBit 29 rfl) rfl ?_
      refine pw_bipush (v := (8 : Int32)) (aX1_putBit 30 rfl) rfl ?_
      refine pw_irem (aX1_putBit 31 rfl) (fun _ => ?_)
      refine pw_ishl (aX1_putBit 32 rfl) ?_
      refine pw_iconst (v := (-1 : Int32)) (aX1_putBit 33 rfl) rfl ?_
      refine pw_ixor (aX1_putBit 34 rfl) ?_
      refine pw_iand (aX1_putBit 35 rfl) ?_
      refine pw_iloadn (aX1_putBit 36 rfl) rfl ?_
      refine pw_iloadn (aX1_putBit 37 rfl) rfl ?_
      refine pw_bipush (v := (8 : Int32)) (aX1_putBit 38 rfl) rfl ?_
      refine pw_irem (aX1_putBit 39 rfl) (fun _ => ?_)
      refine pw_ishl (aX1_putBit 40 rfl) ?_
      refine pw_ior (aX1_putBit 41 rfl) ?_
      refine pw_iastr (c := 25) (ix := (((FL c3 1) + (((a2) / ((8 : Int32))).toInt64)).toInt32).toInt.toNat) (aX1_putBit 42 rfl) rfl (fun _ => ?_)
      refine pw_iconst (v := (1 : Int32)) (aX1_putBit 43 rfl) rfl ?_
      exact pw_iret (aX1_putBit 44 rfl) hok
  · skip
    refine pw_aloadn (aX1_putBit 45 rfl) rfl ?_
    refine pw_get (o := a1) (v := fun c6 => .long (FL c6 1)) (aX1_putBit 46 rfl) uf_RX1_55 un_RX1_55 (fun _ => rfl) (fun c6 hc6 _ tc6 => ?_)
    refine pw_lstore (L2 := [(4, .long (FL c6 1)), (0, .ref (base + 23)), (1, va_rf (h_rf base (a1))), (2, .int (a2)), (3, .int (a3))]) (aX1_putBit 47 rfl) (by first | rfl | (simp [x_s1, x_s2, va_cat, va_ci, va_cl, va_cr, va_cn]; done) | (simp [x_s1, x_s2, va_cat, va_ci, va_cl, va_cr, va_cn]; decide)) ?_
    refine pw_aloadn (aX1_putBit 48 rfl) rfl ?_
    refine pw_get (o := a1) (v := fun c7 => .int (FI c7 0)) (aX1_putBit 49 rfl) uf_RX1_50 un_RX1_50 (fun _ => rfl) (fun c7 hc7 _ tc7 => ?_)
    refine pw_iconst (v := (2 : Int32)) (aX1_putBit 50 rfl) rfl ?_
    refine pw_icne (tgt := 105) (aX1_putBit 51 rfl) (by decide) (fun b7 => ?_) (fun b7 => ?_)
    · skip
      refine pw_iloadn (aX1_putBit 52 rfl) rfl ?_
      refine pw_bipush (v := (64 : Int32)) (aX1_putBit 53 rfl) rfl ?_
      refine pw_icge (tgt := 105) (aX1_putBit 54 rfl) (by decide) (fun b8 => ?_) (fun b8 => ?_)
      · skip
        refine pw_lload (aX1_putBit 55 rfl) rfl ?_
        refine pw_lconst (v := (0 : Int64)) (aX1_putBit 56 rfl) rfl ?_
        refine pw_lclt (tgt := 105) (aX1_putBit 57 rfl) (aX1_putBit 58 rfl) (by decide) (fun b9 => ?_) (fun b9 => ?_)
        · skip
          refine pw_iconst (v := (0 : Int32)) (aX1_putBit 66 rfl) rfl ?_
          exact pw_iret (aX1_putBit 67 rfl) hok
        · skip
          refine pw_lload (aX1_putBit 59 rfl) rfl ?_
          refine pw_aloadn (aX1_putBit 60 rfl) rfl ?_
          refine pw_getr (v := .ref (base + 24)) (aX1_putBit 61 rfl) uf_RX1_11 un_RX1_11 (congrArg (fun r => va_rf (h_rf base r)) (q23_0 (hok).2.1)) ?_
          refine pw_alenr hkb (c := 24) (aX1_putBit 62 rfl) ?_
          refine pw_i2l (aX1_putBit 63 rfl) ?_
          refine pw_lclt (tgt := 107) (aX1_putBit 64 rfl) (aX1_putBit 65 rfl) (by decide) (fun b10 => ?_) (fun b10 => ?_)
          · skip
            refine pw_aloadn (aX1_putBit 68 rfl) rfl ?_
            refine pw_getr (v := .ref (base + 24)) (aX1_putBit 69 rfl) uf_RX1_11 un_RX1_11 (congrArg (fun r => va_rf (h_rf base r)) (q23_0 (hok).2.1)) ?_
            refine pw_lload (aX1_putBit 70 rfl) rfl ?_
            refine pw_l2i (aX1_putBit 71 rfl) ?_
            refine pw_aloadn (aX1_putBit 72 rfl) rfl ?_
            refine pw_getr (v := .ref (base + 24)) (aX1_putBit 73 rfl) uf_RX1_11 un_RX1_11 (congrArg (fun r => va_rf (h_rf base r)) (q23_0 (hok).2.1)) ?_
            refine pw_lload (aX1_putBit 74 rfl) rfl ?_
            refine pw_l2i (aX1_putBit 75 rfl) ?_
            refine pw_laldr (c := 24) (ix := ((FL c6 1).toInt32).toInt.toNat) (aX1_putBit 76 rfl) rfl (fun _ => ?_)
            refine pw_lconst (v := (1 : Int64)) (aX1_putBit 77 rfl) rfl ?_
            refine pw_iloadn (aX1_putBit 78 rfl) rfl ?_
            refine pw_lshl (aX1_putBit 79 rfl) ?_
            refine pw_ldc2 (v := (-1 : Int64)) (aX1_putBit 80 rfl) uk_RX1_61 ?_
            refine pw_lxor (aX1_putBit 81 rfl) ?_
            refine pw_land (aX1_putBit 82 rfl) ?_
            refine pw_iloadn (aX1_putBit 83 rfl) rfl ?_
            refine pw_i2l (aX1_putBit 84 rfl) ?_
            refine pw_iloadn (aX1_putBit 85 rfl) rfl ?_
            refine pw_lshl (aX1_putBit 86 rfl) ?_
            refine pw_lor (aX1_putBit 87 rfl) ?_
            refine pw_lastr (c := 24) (ix := ((FL c6 1).toInt32).toInt.toNat) (aX1_putBit 88 rfl) rfl (fun _ => ?_)
            refine pw_iconst (v := (1 : Int32)) (aX1_putBit 89 rfl) rfl ?_
            exact pw_iret (aX1_putBit 90 rfl) hok
          · skip
            refine pw_iconst (v := (0 : Int32)) (aX1_putBit 66 rfl) rfl ?_
            exact pw_iret (aX1_putBit 67 rfl) hok
      · skip
        refine pw_iconst (v := (0 : Int32)) (aX1_putBit 66 rfl) rfl ?_
        exact pw_iret (aX1_putBit 67 rfl) hok
    · skip
      refine pw_iconst (v := (0 : Int32)) (aX1_putBit 66 rfl) rfl ?_
      exact pw_iret (aX1_putBit 67 rfl) hok
set_option maxHeartbeats 4000000 in
set_option maxRecDepth 100000 in
theorem rX8_count {sk : xK} {base N d : Nat} (hkb : x_kb sk base) (c : Nat) (n sl : Nat) (SH : Nat → Nat × Nat) (FI : Nat → Nat → Int32) (FL : Nat → Nat → Int64) (FR : Nat → Nat → Option Nat) (hok : pk n SH FR)  : pw pj_I sk base N d none 79 0 [(0, .ref (base + c))] [] (n, sl, SH, FI, FL, FR) (P_ret (fX8_count c SH FI FL FR) (n, sl, SH, FI, FL, FR)) := by
  unfold fX8_count
  refine pw_aloadn (aX8_count 0 rfl) rfl ?_
  refine pw_getr (v := .int (FI c 1)) (aX8_count 1 rfl) uf_RX8_18 un_RX8_18 rfl ?_
  refine pw_ite (pw_ifne (tgt := 11) (aX8_count 2 rfl) (by decide) (fun b0 => ?_) (fun b0 => ?_))
  · skip
    refine pw_iconst (v := (1 : Int32)) (aX8_count 3 rfl) rfl ?_
    refine pw_goto (tgt := 15) (aX8_count 4 rfl) (by decide) ?_
    exact pw_iret (aX8_count 7 rfl) hok
  · skip
    refine pw_aloadn (aX8_count 5 rfl) rfl ?_
    refine pw_getr (v := .int (FI c 1)) (aX8_count 6 rfl) uf_RX8_18 un_RX8_18 rfl ?_
    exact pw_iret (aX8_count 7 rfl) hok
set_option maxHeartbeats 4000000 in
set_option maxRecDepth 100000 in
theorem rX8_only {sk : xK} {base N d : Nat} (hkb : x_kb sk base) (c : Nat) (n sl : Nat) (SH : Nat → Nat × Nat) (FI : Nat → Nat → Int32) (FL : Nat → Nat → Int64) (FR : Nat → Nat → Option Nat) (hok : pk n SH FR)  : pw (pj_A base) sk base N d none 80 0 [(0, .ref (base + c))] [] (n, sl, SH, FI, FL, FR) (RX8_only c n sl SH FI FL FR) := by
  unfold RX8_only
  refine pw_aloadn (aX8_only 0 rfl) rfl ?_
  refine pw_getr (v := va_rf (h_rf base (FR c 0))) (aX8_only 1 rfl) uf_RX8_13 un_RX8_13 rfl ?_
  refine pw_iconst (v := (0 : Int32)) (aX8_only 2 rfl) rfl ?_
  refine pw_aald (ix := 0) (o := FR c 0) (aX8_only 3 rfl) rfl (fun c1 hc1 _ gc1 => ?_)
  exact pw_aret (o := FR c1 0) (aX8_only 4 rfl) hok
set_option maxHeartbeats 4000000 in
set_option maxRecDepth 100000 in
theorem rX8_clear {sk : xK} {base N d : Nat} (hkb : x_kb sk base) (c : Nat) (n sl : Nat) (SH : Nat → Nat × Nat) (FI : Nat → Nat → Int32) (FL : Nat → Nat → Int64) (FR : Nat → Nat → Option Nat) (hok : pk n SH FR)  : pw pj_V sk base N d none 81 0 [(0, .ref (base + c))] [] (n, sl, SH, FI, FL, FR) (RX8_clear c n sl SH FI FL FR) := by
  unfold RX8_clear
  refine pw_aloadn (aX8_clear 0 rfl) rfl ?_
  refine pw_iconst (v := (0 : Int32)) (aX8_clear 1 rfl) rfl ?_
  refine pw_putri (aX8_clear 2 rfl) uf_RX8_18 (fun _ _ _ => rfl) (fun t1 => ?_)
  refine pw_aloadn (aX8_clear 3 rfl) rfl ?_
  refine pw_iconst (v := (0 : Int32)) (aX8_clear 4 rfl) rfl ?_
  refine pw_putri (aX8_clear 5 rfl) uf_RX8_22 (fun _ _ _ => rfl) (fun t2 => ?_)
  refine pw_aloadn (aX8_clear 6 rfl) rfl ?_
  refine pw_callV (Bs := []) (rest := []) (aX8_clear 7 rfl) um_RX8_25 ujX8_only wc_RX8_25.2.2.2.2 (by decide) (by decide) rfl rfl (fun d => rX8_only hkb c n sl SH (h_up (h_up FI c 1 ((0 : Int32))) c 2 ((0 : Int32))) FL FR hok) (fun v2 n2 sl2 SH2 FI2 FL2 FR2 hok2 _ => ?_)
  show pw _ _ _ _ _ _ _ 14 _ [va_rf (h_rf base (v2))] _ _
  refine pw_iconst (v := (0 : Int32)) (aX8_clear 8 rfl) rfl ?_
  refine pw_lconst (v := (0 : Int64)) (aX8_clear 9 rfl) rfl ?_
  refine pw_callVo (o := v2) (Bs := [.int ((0 : Int32)), .long ((0 : Int64))]) (rest := []) (aX8_clear 10 rfl) um_RX8_29 ujX5_become wc_RX8_29.2.2.2.2 (by decide) (by decide) rfl (fun _ => rfl) (fun c4 hc4 d => rX5_become hkb c4 ((0 : Int32)) ((0 : Int64)) n2 sl2 SH2 FI2 FL2 FR2 hok2) (fun c4 hc4 v4 n4 sl4 SH4 FI4 FL4 FR4 hok4 _ => ?_)
  show pw _ _ _ _ _ _ _ 19 _ [] _ _
  exact pw_vret (aX8_clear 11 rfl) hok4
set_option maxHeartbeats 4000000 in
set_option maxRecDepth 100000 in
theorem bX8_take_18 {sk : xK} {base N d : Nat} {K18 : Int32 → Nat → Nat → (Nat → Nat × Nat) → (Nat → Nat → Int32) → (Nat → Nat → Int64) → (Nat → Nat → Option Nat) → Unit → hS → Prop} (hkb : x_kb sk base) (c : Nat) (a1 : Option Nat) (l2i : Int32)  (n sl : Nat) (SH : Nat → Nat × Nat) (FI : Nat → Nat → Int32) (FL : Nat → Nat → Int64) (FR : Nat → Nat → Option Nat) (hok : pk n SH FR)  (hK18 : ∀ (l2i : Int32) (n sl : Nat) (SH : Nat → Nat × Nat) (FI : Nat → Nat → Int32) (FL : Nat → Nat → Int64) (FR : Nat → Nat → Option Nat), pk n SH FR → pw pj_V sk base N d none 82 18 [(0, .ref (base + c)), (1, va_rf (h_rf base (a1))), (2, .int (l2i))] [] (n, sl, SH, FI, FL, FR) (K18 l2i n sl SH FI FL FR)) : pw pj_V sk base (N + 1) d none 82 18 [(0, .ref (base + c)), (1, va_rf (h_rf base (a1))), (2, .int (l2i))] [] (n, sl, SH, FI, FL, FR) (BX8_take_18 K18 c a1 l2i n sl SH FI FL FR) := by
  unfold BX8_take_18
  refine pd_iloadn (aX8_take 10 rfl) rfl ?_
  refine pw_aloadn (aX8_take 11 rfl) rfl ?_
  refine pw_callVo (o := a1) (Bs := []) (rest := [.int (l2i)]) (aX8_take 12 rfl) um_RX8_33 ujX8_count wc_RX8_33.2.2.2.2 (by decide) (by decide) rfl (fun _ => rfl) (fun c1 hc1 d => rX8_count hkb c1 n sl SH FI FL FR hok) (fun c1 hc1 v1 n1 sl1 SH1 FI1 FL1 FR1 hok1 _ => ?_)
  show pw _ _ _ _ _ _ _ 23 _ [.int (v1), .int (l2i)] _ _
  refine pw_icge (tgt := 56) (aX8_take 13 rfl) (by decide) (fun b2 => ?_) (fun b2 => ?_)
  · skip
    refine pw_iloadn (aX8_take 14 rfl) rfl ?_
    refine pw_aloadn (aX8_take 15 rfl) rfl ?_
    refine pw_getr (v := va_rf (h_rf base (FR1 c 0))) (aX8_take 16 rfl) uf_RX8_13 un_RX8_13 rfl ?_
    refine pw_alen hkb (o := FR1 c 0) (aX8_take 17 rfl) (fun c4 hc4 _ => ?_)
    refine pw_icge (tgt := 56) (aX8_take 18 rfl) (by decide) (fun b4 => ?_) (fun b4 => ?_)
    · skip
      refine pw_aloadn (aX8_take 19 rfl) rfl ?_
      refine pw_getr (v := va_rf (h_rf base (FR1 c 0))) (aX8_take 20 rfl) uf_RX8_13 un_RX8_13 rfl ?_
      refine pw_iloadn (aX8_take 21 rfl) rfl ?_
      refine pw_aald (ix := (l2i).toInt.toNat) (o := FR1 c 0) (aX8_take 22 rfl) rfl (fun c6 hc6 _ gc6 => ?_)
      refine pw_aloadn (aX8_take 23 rfl) rfl ?_
      refine pw_get (o := a1) (v := fun c7 => va_rf (h_rf base (FR1 c7 0))) (aX8_take 24 rfl) uf_RX8_13 un_RX8_13 (fun _ => rfl) (fun c7 hc7 _ tc7 => ?_)
      refine pw_iloadn (aX8_take 25 rfl) rfl ?_
      refine pw_aald (ix := (l2i).toInt.toNat) (o := FR1 c7 0) (aX8_take 26 rfl) rfl (fun c8 hc8 _ gc8 => ?_)
      refine pw_callVo (o := FR1 c6 (l2i).toInt.toNat) (Bs := [va_rf (h_rf base (FR1 c8 (l2i).toInt.toNat))]) (L2 := fun c9 => [(0, .ref (base + c9)), (1, va_rf (h_rf base (FR1 c8 (l2i).toInt.toNat)))]) (rest := []) (aX8_take 27 rfl) um_RX8_37 ujX5_take wc_RX8_37.2.2.2.2 (by decide) (by decide) rfl (fun _ => (by first | rfl | simp [lv_args, va_cat, va_ci, va_cl, va_cr, va_cn])) (fun c9 hc9 d => rX5_take hkb c9 (FR1 c8 (l2i).toInt.toNat) n1 sl1 SH1 FI1 FL1 FR1 hok1) (fun c9 hc9 v9 n9 sl9 SH9 FI9 FL9 FR9 hok9 _ => ?_)
      show pw _ _ _ _ _ _ _ 50 _ [] _ _
      refine pw_iinc (v := (l2i) + (1 : Int32)) (L2 := [(2, .int ((l2i) + (1 : Int32))), (0, .ref (base + c)), (1, va_rf (h_rf base (a1)))]) (aX8_take 28 rfl) rfl rfl (by first | rfl | (simp [x_s1, x_s2, va_cat, va_ci, va_cl, va_cr, va_cn]; done) | (simp [x_s1, x_s2, va_cat, va_ci, va_cl, va_cr, va_cn]; decide)) ?_
      refine pw_goto (tgt := 18) (aX8_take 29 rfl) (by decide) ?_
      exact pw_Li (L2 := [(0, .ref (base + c)), (1, va_rf (h_rf base (a1))), (2, .int ((l2i) + (1 : Int32)))]) [2, 0, 1] (hK18 ((l2i) + (1 : Int32)) n9 sl9 SH9 FI9 FL9 FR9 hok9) ⟨rfl, rfl, rfl, trivial⟩
    · skip
      exact pw_vret (aX8_take 30 rfl) hok1
  · skip
    exact pw_vret (aX8_take 30 rfl) hok1
theorem gX8_take_18 {sk : xK} {base d : Nat}  (hkb : x_kb sk base) (c : Nat) (a1 : Option Nat) (N : Nat) :  ∀ (l2i : Int32)  (n sl : Nat) (SH : Nat → Nat × Nat) (FI : Nat → Nat → Int32) (FL : Nat → Nat → Int64) (FR : Nat → Nat → Option Nat), pk n SH FR → pw pj_V sk base N d none 82 18 [(0, .ref (base + c)), (1, va_rf (h_rf base (a1))), (2, .int (l2i))] [] (n, sl, SH, FI, FL, FR) (GX8_take_18  c a1 (N + 1) l2i n sl SH FI FL FR) := by
  induction N with
  | zero => intros; exact pw_0
  | succ N ih => intro   l2i  n sl SH FI FL FR hok; exact bX8_take_18 hkb c a1 l2i  n sl SH FI FL FR hok  (ih  )
theorem rX8_take_18 {sk : xK} {base N d : Nat}  (hkb : x_kb sk base) (c : Nat) (a1 : Option Nat) (l2i : Int32)  (n sl : Nat) (SH : Nat → Nat × Nat) (FI : Nat → Nat → Int32) (FL : Nat → Nat → Int64) (FR : Nat → Nat → Option Nat) (hok : pk n SH FR)   : pw pj_V sk base N d none 82 18 [(0, .ref (base + c)), (1, va_rf (h_rf base (a1))), (2, .int (l2i))] [] (n, sl, SH, FI, FL, FR) (RX8_take_18  c a1 l2i n sl SH FI FL FR) := pw_cons (gX8_take_18 hkb c a1 N   l2i  n sl SH FI FL FR hok) (fun _ _ h => ⟨_, h⟩)
set_option maxHeartbeats 4000000 in
set_option maxRecDepth 100000 in
theorem rX8_take {sk : xK} {base N d : Nat} (hkb : x_kb sk base) (c : Nat) (a1 : Option Nat) (n sl : Nat) (SH : Nat → Nat × Nat) (FI : Nat → Nat → Int32) (FL : Nat → Nat → Int64) (FR : Nat → Nat → Option Nat) (hok : pk n SH FR)  : pw pj_V sk base N d none 82 0 [(0, .ref (base + c)), (1, va_rf (h_rf base (a1)))] [] (n, sl, SH, FI, FL, FR) (RX8_take c a1 n sl SH FI FL FR) := by
  unfold RX8_take
  refine pw_aloadn (aX8_take 0 rfl) rfl ?_
  refine pw_aloadn (aX8_take 1 rfl) rfl ?_
  refine pw_get (o := a1) (v := fun c1 => .int (FI c1 1)) (aX8_take 2 rfl) uf_RX8_18 un_RX8_18 (fun _ => rfl) (fun c1 hc1 _ tc1 => ?_)
  refine pw_putri (aX8_take 3 rfl) uf_RX8_18 (fun _ _ _ => rfl) (fun t2 => ?_)
  refine pw_aloadn (aX8_take 4 rfl) rfl ?_
  refine pw_aloadn (aX8_take 5 rfl) rfl ?_
  refine pw_get (o := a1) (v := fun c3 => .int ((h_up FI c 1 (FI c1 1)) c3 2)) (aX8_take 6 rfl) uf_RX8_22 un_RX8_22 (fun _ => rfl) (fun c3 hc3 _ tc3 => ?_)
  refine pw_putri (aX8_take 7 rfl) uf_RX8_22 (fun _ _ _ => rfl) (fun t4 => ?_)
  refine pw_iconst (v := (0 : Int32)) (aX8_take 8 rfl) rfl ?_
  refine pw_istoren (L2 := [(2, .int ((0 : Int32))), (0, .ref (base + c)), (1, va_rf (h_rf base (a1)))]) (aX8_take 9 rfl) (by first | rfl | (simp [x_s1, x_s2, va_cat, va_ci, va_cl, va_cr, va_cn]; done) | (simp [x_s1, x_s2, va_cat, va_ci, va_cl, va_cr, va_cn]; decide)) ?_
  exact pw_Li (L2 := [(0, .ref (base + c)), (1, va_rf (h_rf base (a1))), (2, .int ((0 : Int32)))]) [2, 0, 1] (rX8_take_18 hkb c a1 ((0 : Int32)) n sl SH (h_up (h_up FI c 1 (FI c1 1)) c 2 ((h_up FI c 1 (FI c1 1)) c3 2)) FL FR hok  ) ⟨rfl, rfl, rfl, trivial⟩
set_option maxHeartbeats 4000000 in
set_option maxRecDepth 100000 in
theorem rX8_addPiece {sk : xK} {base N d : Nat} (hkb : x_kb sk base) (c : Nat) (a1 : Option Nat) (a2 : Int32) (a3 : Int32) (n sl : Nat) (SH : Nat → Nat × Nat) (FI : Nat → Nat → Int32) (FL : Nat → Nat → Int64) (FR : Nat → Nat → Option Nat) (hok : pk n SH FR)  : pw pj_V sk base N d none 83 0 [(0, .ref (base + c)), (1, va_rf (h_rf base (a1))), (2, .int (a2)), (3, .int (a3))] [] (n, sl, SH, FI, FL, FR) (RX8_addPiece c a1 a2 a3 n sl SH FI FL FR) := by
  unfold RX8_addPiece
  refine pw_aloadn (aX8_addPiece 0 rfl) rfl ?_
  refine pw_getr (v := .int (FI c 1)) (aX8_addPiece 1 rfl) uf_RX8_18 un_RX8_18 rfl ?_
  refine pw_aloadn (aX8_addPiece 2 rfl) rfl ?_
  refine pw_getr (v := va_rf (h_rf base (FR c 0))) (aX8_addPiece 3 rfl) uf_RX8_13 un_RX8_13 rfl ?_
  refine pw_alen hkb (o := FR c 0) (aX8_addPiece 4 rfl) (fun c1 hc1 _ => ?_)
  refine pw_iclt (tgt := 13) (aX8_addPiece 5 rfl) (by decide) (fun b1 => ?_) (fun b1 => ?_)
  · skip
    refine pw_aloadn (aX8_addPiece 7 rfl) rfl ?_
    refine pw_getr (v := va_rf (h_rf base (FR c 0))) (aX8_addPiece 8 rfl) uf_RX8_13 un_RX8_13 rfl ?_
    refine pw_aloadn (aX8_addPiece 9 rfl) rfl ?_
    refine pw_getr (v := .int (FI c 1)) (aX8_addPiece 10 rfl) uf_RX8_18 un_RX8_18 rfl ?_
    refine pw_aald (ix := (FI c 1).toInt.toNat) (o := FR c 0) (aX8_addPiece 11 rfl) rfl (fun c3 hc3 _ gc3 => ?_)
    refine pw_astore (L2 := [(4, va_rf (h_rf base (FR c3 (FI c 1).toInt.toNat))), (0, .ref (base + c)), (1, va_rf (h_rf base (a1))), (2, .int (a2)), (3, .int (a3))]) (aX8_addPiece 12 rfl) (by first | rfl | (simp [x_s1, x_s2, va_cat, va_ci, va_cl, va_cr, va_cn]; done) | (simp [x_s1, x_s2, va_cat, va_ci, va_cl, va_cr, va_cn]; decide)) ?_
    refine pw_aload (aX8_addPiece 13 rfl) rfl ?_
    refine pw_aloadn (aX8_addPiece 14 rfl) rfl ?_
    refine pw_callVo (o := FR c3 (FI c 1).toInt.toNat) (Bs := [va_rf (h_rf base (a1))]) (L2 := fun c4 => [(0, .ref (base + c4)), (1, va_rf (h_rf base (a1)))]) (rest := []) (aX8_addPiece 15 rfl) um_RX8_37 ujX5_take wc_RX8_37.2.2.2.2 (by decide) (by decide) rfl (fun _ => (by first | rfl | simp [lv_args, va_cat, va_ci, va_cl, va_cr, va_cn])) (fun c4 hc4 d => rX5_take hkb c4 (a1) n sl SH FI FL FR hok) (fun c4 hc4 v4 n4 sl4 SH4 FI4 FL4 FR4 hok4 _ => ?_)
    show pw _ _ _ _ _ _ _ 30 _ [] _ _
    refine pw_aload (aX8_addPiece 16 rfl) rfl ?_
    refine pw_iloadn (aX8_addPiece 17 rfl) rfl ?_
    refine pw_puti (o := FR c3 (FI c 1).toInt.toNat) (aX8_addPiece 18 rfl) uf_RX8_41 (fun _ _ _ => rfl) (fun c6 hc6 _ tc6 => ?_)
    refine pw_aload (aX8_addPiece 19 rfl) rfl ?_
    refine pw_iloadn (aX8_addPiece 20 rfl) rfl ?_
    refine pw_puti (o := FR c3 (FI c 1).toInt.toNat) (aX8_addPiece 21 rfl) uf_RX8_42 (fun _ _ _ => rfl) (fun c7 hc7 _ tc7 => ?_)
    refine pw_aloadn (aX8_addPiece 22 rfl) rfl ?_
    refine pw_dup (aX8_addPiece 23 rfl) ?_
    refine pw_getr (v := .int ((h_up (h_up FI4 c6 2 (a2)) c7 3 (a3)) c 1)) (aX8_addPiece 24 rfl) uf_RX8_18 un_RX8_18 rfl ?_
    refine pw_iconst (v := (1 : Int32)) (aX8_addPiece 25 rfl) rfl ?_
    refine pw_iadd (aX8_addPiece 26 rfl) ?_
    refine pw_putri (aX8_addPiece 27 rfl) uf_RX8_18 (fun _ _ _ => rfl) (fun t8 => ?_)
    refine pw_aloadn (aX8_addPiece 28 rfl) rfl ?_
    refine pw_dup (aX8_addPiece 29 rfl) ?_
    refine pw_getr (v := .int ((h_up (h_up (h_up FI4 c6 2 (a2)) c7 3 (a3)) c 1 (((h_up (h_up FI4 c6 2 (a2)) c7 3 (a3)) c 1) + ((1 : Int32)))) c 2)) (aX8_addPiece 30 rfl) uf_RX8_22 un_RX8_22 rfl ?_
    refine pw_iloadn (aX8_addPiece 31 rfl) rfl ?_
    refine pw_iadd (aX8_addPiece 32 rfl) ?_
    refine pw_putri (aX8_addPiece 33 rfl) uf_RX8_22 (fun _ _ _ => rfl) (fun t9 => ?_)
    exact pw_vret (aX8_addPiece 34 rfl) hok4
  · skip
    exact pw_vret (aX8_addPiece 6 rfl) hok
set_option maxHeartbeats 4000000 in
set_option maxRecDepth 100000 in
theorem rX9_shape_30 {sk : xK} {base N d : Nat}  (hkb : x_kb sk base) (a1 : Int32)   (n sl : Nat) (SH : Nat → Nat × Nat) (FI : Nat → Nat → Int32) (FL : Nat → Nat → Int64) (FR : Nat → Nat → Option Nat) (hok : pk n SH FR)   : pw pj_I sk base N d none 89 30 [(0, .int (a1))] [] (n, sl, SH, FI, FL, FR) (RX9_shape_30  a1  n sl SH FI FL FR) := by
  unfold RX9_shape_30
  refine pw_iloadn (aX9_shape 16 rfl) rfl ?_
  refine pw_tsw aX9_shape_31 (fun tg ht => ?_)
  refine pw_case ((a1).toInt = 3 ∨ (a1).toInt = 14) (fun b1 => ?_) (fun b1 => ?_)
  · have et : tg = 678 := by
      rcases b1 with h9 | h9
      · rcases ht with ⟨h8, -⟩ | ⟨-, -, off, ho, ht⟩; { exact absurd h8 (by omega) }; { rw [h9] at ho; have e9 : off = (647 : Int) := (Option.some.inj (show some (647 : Int) = some off from ho)).symm; omega }
      · rcases ht with ⟨h8, -⟩ | ⟨-, -, off, ho, ht⟩; { exact absurd h8 (by omega) }; { rw [h9] at ho; have e9 : off = (647 : Int) := (Option.some.inj (show some (647 : Int) = some off from ho)).symm; omega }
    subst et
    refine pw_bipush (v := (8 : Int32)) (aX9_shape 23 rfl) rfl ?_
    exact pw_iret (aX9_shape 24 rfl) hok
  skip
  refine pw_case ((a1).toInt = 4 ∨ (a1).toInt = 5 ∨ (a1).toInt = 7 ∨ (a1).toInt = 24 ∨ (a1).toInt = 25 ∨ (a1).toInt = 26 ∨ (a1).toInt = 27 ∨ (a1).toInt = 28 ∨ (a1).toInt = 29 ∨ (a1).toInt = 30 ∨ (a1).toInt = 31 ∨ (a1).toInt = 32 ∨ (a1).toInt = 33 ∨ (a1).toInt = 34 ∨ (a1).toInt = 36 ∨ (a1).toInt = 37 ∨ (a1).toInt = 38 ∨ (a1).toInt = 39 ∨ (a1).toInt = 41 ∨ (a1).toInt = 42 ∨ (a1).toInt = 43 ∨ (a1).toInt = 44 ∨ (a1).toInt = 45 ∨ (a1).toInt = 46 ∨ (a1).toInt = 48 ∨ (a1).toInt = 49 ∨ (a1).toInt = 50 ∨ (a1).toInt = 51 ∨ (a1).toInt = 52 ∨ (a1).toInt = 53 ∨ (a1).toInt = 54 ∨ (a1).toInt = 55 ∨ (a1).toInt = 56 ∨ (a1).toInt = 57 ∨ (a1).toInt = 58 ∨ (a1).toInt = 59 ∨ (a1).toInt = 60 ∨ (a1).toInt = 61 ∨ (a1).toInt = 62 ∨ (a1).toInt = 63 ∨ (a1).toInt = 64 ∨ (a1).toInt = 65 ∨ (a1).toInt = 66 ∨ (a1).toInt = 67 ∨ (a1).toInt = 68 ∨ (a1).toInt = 69 ∨ (a1).toInt = 70 ∨ (a1).toInt = 71 ∨ (a1).toInt = 72 ∨ (a1).toInt = 73 ∨ (a1).toInt = 74 ∨ (a1).toInt = 75 ∨ (a1).toInt = 76 ∨ (a1).toInt = 77 ∨ (a1).toInt = 78 ∨ (a1).toInt = 79 ∨ (a1).toInt = 80 ∨ (a1).toInt = 81 ∨ (a1).toInt = 82 ∨ (a1).toInt = 83 ∨ (a1).toInt = 84 ∨ (a1).toInt = 85 ∨ (a1).toInt = 86 ∨ (a1).toInt = 87 ∨ (a1).toInt = 88 ∨ (a1).toInt = 89 ∨ (a1).toInt = 90 ∨ (a1).toInt = 91 ∨ (a1).toInt = 92 ∨ (a1).toInt = 93 ∨ (a1).toInt = 94 ∨ (a1).toInt = 95 ∨ (a1).toInt = 96 ∨ (a1).toInt = 97 ∨ (a1).toInt = 98 ∨ (a1).toInt = 99 ∨ (a1).toInt = 100 ∨ (a1).toInt = 101 ∨ (a1).toInt = 102 ∨ (a1).toInt = 103 ∨ (a1).toInt = 104 ∨ (a1).toInt = 105 ∨ (a1).toInt = 106 ∨ (a1).toInt = 107 ∨ (a1).toInt = 108 ∨ (a1).toInt = 109 ∨ (a1).toInt = 110 ∨ (a1).toInt = 111 ∨ (a1).toInt = 112 ∨ (a1).toInt = 113 ∨ (a1).toInt = 114 ∨ (a1).toInt = 115 ∨ (a1).toInt = 116 ∨ (a1).toInt = 117 ∨ (a1).toInt = 118 ∨ (a1).toInt = 119 ∨ (a1).toInt = 120 ∨ (a1).toInt = 121 ∨ (a1).toInt = 122 ∨ (a1).toInt = 123 ∨ (a1).toInt = 124 ∨ (a1).toInt = 125 ∨ (a1).toInt = 126 ∨ (a1).toInt = 127 ∨ (a1).toInt = 128 ∨ (a1).toInt = 129 ∨ (a1).toInt = 130 ∨ (a1).toInt = 131 ∨ (a1).toInt = 132 ∨ (a1).toInt = 133 ∨ (a1).toInt = 134 ∨ (a1).toInt = 135 ∨ (a1).toInt = 136 ∨ (a1).toInt = 137 ∨ (a1).toInt = 138 ∨ (a1).toInt = 139 ∨ (a1).toInt = 140 ∨ (a1).toInt = 141 ∨ (a1).toInt = 142 ∨ (a1).toInt = 143 ∨ (a1).toInt = 149 ∨ (a1).toInt = 154) (fun b2 => ?_) (fun b2 => ?_)
  · have et : tg = 710 := by
      rcases b2 with h9 | h9 | h9 | h9 | h9 | h9 | h9 | h9 | h9 | h9 | h9 | h9 | h9 | h9 | h9 | h9 | h9 | h9 | h9 | h9 | h9 | h9 | h9 | h9 | h9 | h9 | h9 | h9 | h9 | h9 | h9 | h9 | h9 | h9 | h9 | h9 | h9 | h9 | h9 | h9 | h9 | h9 | h9 | h9 | h9 | h9 | h9 | h9 | h9 | h9 | h9 | h9 | h9 | h9 | h9 | h9 | h9 | h9 | h9 | h9 | h9 | h9 | h9 | h9 | h9 | h9 | h9 | h9 | h9 | h9 | h9 | h9 | h9 | h9 | h9 | h9 | h9 | h9 | h9 | h9 | h9 | h9 | h9 | h9 | h9 | h9 | h9 | h9 | h9 | h9 | h9 | h9 | h9 | h9 | h9 | h9 | h9 | h9 | h9 | h9 | h9 | h9 | h9 | h9 | h9 | h9 | h9 | h9 | h9 | h9 | h9 | h9 | h9 | h9 | h9 | h9 | h9 | h9 | h9 | h9 | h9 | h9
      · rcases ht with ⟨h8, -⟩ | ⟨-, -, off, ho, ht⟩; { exact absurd h8 (by omega) }; { rw [h9] at ho; have e9 : off = (679 : Int) := (Option.some.inj (show some (679 : Int) = some off from ho)).symm; omega }
      · rcases ht with ⟨h8, -⟩ | ⟨-, -, off, ho, ht⟩; { exact absurd h8 (by omega) }; { rw [h9] at ho; have e9 : off = (679 : Int) := (Option.some.inj (show some (679 : Int) = some off from ho)).symm; omega }
      · rcases ht with ⟨h8, -⟩ | ⟨-, -, off, ho, ht⟩; { exact absurd h8 (by omega) }; { rw [h9] at ho; have e9 : off = (679 : Int) := (Option.some.inj (show some (679 : Int) = some off from ho)).symm; omega }
      · rcases ht with ⟨h8, -⟩ | ⟨-, -, off, ho, ht⟩; { exact absurd h8 (by omega) }; { rw [h9] at ho; have e9 : off = (679 : Int) := (Option.some.inj (show some (679 : Int) = some off from ho)).symm; omega }
      · rcases ht with ⟨h8, -⟩ | ⟨-, -, off, ho, ht⟩; { exact absurd h8 (by omega) }; { rw [h9] at ho; have e9 : off = (679 : Int) := (Option.some.inj (show some (679 : Int) = some off from ho)).symm; omega }
      · rcases ht with ⟨h8, -⟩ | ⟨-, -, off, ho, ht⟩; { exact absurd h8 (by omega) }; { rw [h9] at ho; have e9 : off = (679 : Int) := (Option.some.inj (show some (679 : Int) = some off from ho)).symm; omega }
      · rcases ht with ⟨h8, -⟩ | ⟨-, -, off, ho, ht⟩; { exact absurd h8 (by omega) }; { rw [h9] at ho; have e9 : off = (679 : Int) := (Option.some.inj (show some (679 : Int) = some off from ho)).symm; omega }
      · rcases ht with ⟨h8, -⟩ | ⟨-, -, off, ho, ht⟩; { exact absurd h8 (by omega) }; { rw [h9] at ho; have e9 : off = (679 : Int) := (Option.some.inj (show some (679 : Int) = some off from ho)).symm; omega }
      · rcases ht with ⟨h8, -⟩ | ⟨-, -, off, ho, ht⟩; { exact absurd h8 (by omega) }; { rw [h9] at ho; have e9 : off = (679 : Int) := (Option.some.inj (show some (679 : Int) = some off from ho)).symm; omega }
      · rcases ht with ⟨h8, -⟩ | ⟨-, -, off, ho, ht⟩; { exact absurd h8 (by omega) }; { rw [h9] at ho; have e9 : off = (679 : Int) := (Option.some.inj (show some (679 : Int) = some off from ho)).symm; omega }
      · rcases ht with ⟨h8, -⟩ | ⟨-, -, off, ho, ht⟩; { exact absurd h8 (by omega) }; { rw [h9] at ho; have e9 : off = (679 : Int) := (Option.some.inj (show some (679 : Int) = some off from ho)).symm; omega }
      · rcases ht with ⟨h8, -⟩ | ⟨-, -, off, ho, ht⟩; { exact absurd h8 (by omega) }; { rw [h9] at ho; have e9 : off = (679 : Int) := (Option.some.inj (show some (679 : Int) = some off from ho)).symm; omega }
      · rcases ht with ⟨h8, -⟩ | ⟨-, -, off, ho, ht⟩; { exact absurd h8 (by omega) }; { rw [h9] at ho; have e9 : off = (679 : Int) := (Option.some.inj (show some (679 : Int) = some off from ho)).symm; omega }
      · rcases ht with ⟨h8, -⟩ | ⟨-, -, off, ho, ht⟩; { exact absurd h8 (by omega) }; { rw [h9] at ho; have e9 : off = (679 : Int) := (Option.some.inj (show some (679 : Int) = some off from ho)).symm; omega }
      · rcases ht with ⟨h8, -⟩ | ⟨-, -, off, ho, ht⟩; { exact absurd h8 (by omega) }; { rw [h9] at ho; have e9 : off = (679 : Int) := (Option.some.inj (show some (679 : Int) = some off from ho)).symm; omega }
      · rcases ht with ⟨h8, -⟩ | ⟨-, -, off, ho, ht⟩; { exact absurd h8 (by omega) }; { rw [h9] at ho; have e9 : off = (679 : Int) := (Option.some.inj (show some (679 : Int) = some off from ho)).symm; omega }
      · rcases ht with ⟨h8, -⟩ | ⟨-, -, off, ho, ht⟩; { exact absurd h8 (by omega) }; { rw [h9] at ho; have e9 : off = (679 : Int) := (Option.some.inj (show some (679 : Int) = some off from ho)).symm; omega }
      · rcases ht with ⟨h8, -⟩ | ⟨-, -, off, ho, ht⟩; { exact absurd h8 (by omega) }; { rw [h9] at ho; have e9 : off = (679 : Int) := (Option.some.inj (show some (679 : Int) = some off from ho)).symm; omega }
      · rcases ht with ⟨h8, -⟩ | ⟨-, -, off, ho, ht⟩; { exact absurd h8 (by omega) }; { rw [h9] at ho; have e9 : off = (679 : Int) := (Option.some.inj (show some (679 : Int) = some off from ho)).symm; omega }
      · rcases ht with ⟨h8, -⟩ | ⟨-, -, off, ho, ht⟩; { exact absurd h8 (by omega) }; { rw [h9] at ho; have e9 : off = (679 : Int) := (Option.some.inj (show some (679 : Int) = some off from ho)).symm; omega }
      · rcases ht with ⟨h8, -⟩ | ⟨-, -, off, ho, ht⟩; { exact absurd h8 (by omega) }; { rw [h9] at ho; have e9 : off = (679 : Int) := (Option.some.inj (show some (679 : Int) = some off from ho)).symm; omega }
      · rcases ht with ⟨h8, -⟩ | ⟨-, -, off, ho, ht⟩; { exact absurd h8 (by omega) }; { rw [h9] at ho; have e9 : off = (679 : Int) := (Option.some.inj (show some (679 : Int) = some off from ho)).symm; omega }
      · rcases ht with ⟨h8, -⟩ | ⟨-, -, off, ho, ht⟩; { exact absurd h8 (by omega) }; { rw [h9] at ho; have e9 : off = (679 : Int) := (Option.some.inj (show some (679 : Int) = some off from ho)).symm; omega }
      · rcases ht with ⟨h8, -⟩ | ⟨-, -, off, ho, ht⟩; { exact absurd h8 (by omega) }; { rw [h9] at ho; have e9 : off = (679 : Int) := (Option.some.inj (show some (679 : Int) = some off from ho)).symm; omega }
      · rcases ht with ⟨h8, -⟩ | ⟨-, -, off, ho, ht⟩; { exact absurd h8 (by omega) }; { rw [h9] at ho; have e9 : off = (679 : Int) := (Option.some.inj (show some (679 : Int) = some off from ho)).symm; omega }
      · rcases ht with ⟨h8, -⟩ | ⟨-, -, off, ho, ht⟩; { exact absurd h8 (by omega) }; { rw [h9] at ho; have e9 : off = (679 : Int) := (Option.some.inj (show some (679 : Int) = some off from ho)).symm; omega }
      · rcases ht with ⟨h8, -⟩ | ⟨-, -, off, ho, ht⟩; { exact absurd h8 (by omega) }; { rw [h9] at ho; have e9 : off = (679 : Int) := (Option.some.inj (show some (679 : Int) = some off from ho)).symm; omega }
      · rcases ht with ⟨h8, -⟩ | ⟨-, -, off, ho, ht⟩; { exact absurd h8 (by omega) }; { rw [h9] at ho; have e9 : off = (679 : Int) := (Option.some.inj (show some (679 : Int) = some off from ho)).symm; omega }
      · rcases ht with ⟨h8, -⟩ | ⟨-, -, off, ho, ht⟩; { exact absurd h8 (by omega) }; { rw [h9] at ho; have e9 : off = (679 : Int) := (Option.some.inj (show some (679 : Int) = some off from ho)).symm; omega }
      · rcases ht with ⟨h8, -⟩ | ⟨-, -, off, ho, ht⟩; { exact absurd h8 (by omega) }; { rw [h9] at ho; have e9 : off = (679 : Int) := (Option.some.inj (show some (679 : Int) = some off from ho)).symm; omega }
      · rcases ht with ⟨h8, -⟩ | ⟨-, -, off, ho, ht⟩; { exact absurd h8 (by omega) }; { rw [h9] at ho; have e9 : off = (679 : Int) := (Option.some.inj (show some (679 : Int) = some off from ho)).symm; omega }
      · rcases ht with ⟨h8, -⟩ | ⟨-, -, off, ho, ht⟩; { exact absurd h8 (by omega) }; { rw [h9] at ho; have e9 : off = (679 : Int) := (Option.some.inj (show some (679 : Int) = some off from ho)).symm; omega }
      · rcases ht with ⟨h8, -⟩ | ⟨-, -, off, ho, ht⟩; { exact absurd h8 (by omega) }; { rw [h9] at ho; have e9 : off = (679 : Int) := (Option.some.inj (show some (679 : Int) = some off from ho)).symm; omega }
      · rcases ht with ⟨h8, -⟩ | ⟨-, -, off, ho, ht⟩; { exact absurd h8 (by omega) }; { rw [h9] at ho; have e9 : off = (679 : Int) := (Option.some.inj (show some (679 : Int) = some off from ho)).symm; omega }
      · rcases ht with ⟨h8, -⟩ | ⟨-, -, off, ho, ht⟩; { exact absurd h8 (by omega) }; { rw [h9] at ho; have e9 : off = (679 : Int) := (Option.some.inj (show some (679 : Int) = some off from ho)).symm; omega }
      · rcases ht with ⟨h8, -⟩ | ⟨-, -, off, ho, ht⟩; { exact absurd h8 (by omega) }; { rw [h9] at ho; have e9 : off = (679 : Int) := (Option.some.inj (show some (679 : Int) = some off from ho)).symm; omega }
      · rcases ht with ⟨h8, -⟩ | ⟨-, -, off, ho, ht⟩; { exact absurd h8 (by omega) }; { rw [h9] at ho; have e9 : off = (679 : Int) := (Option.some.inj (show some (679 : Int) = some off from ho)).symm; omega }
      · rcases ht with ⟨h8, -⟩ | ⟨-, -, off, ho, ht⟩; { exact absurd h8 (by omega) }; { rw [h9] at ho; have e9 : off = (679 : Int) := (Option.some.inj (show some (679 : Int) = some off from ho)).symm; omega }
      · rcases ht with ⟨h8, -⟩ | ⟨-, -, off, ho, ht⟩; { exact absurd h8 (by omega) }; { rw [h9] at ho; have e9 : off = (679 : Int) := (Option.some.inj (show some (679 : Int) = some off from ho)).symm; omega }
      · rcases ht with ⟨h8, -⟩ | ⟨-, -, off, ho, ht⟩; { exact absurd h8 (by omega) }; { rw [h9] at ho; have e9 : off = (679 : Int) := (Option.some.inj (show some (679 : Int) = some off from ho)).symm; omega }
      · rcases ht with ⟨h8, -⟩ | ⟨-, -, off, ho, ht⟩; { exact absurd h8 (by omega) }; { rw [h9] at ho; have e9 : off = (679 : Int) := (Option.some.inj (show some (679 : Int) = some off from ho)).symm; omega }
      · rcases ht with ⟨h8, -⟩ | ⟨-, -, off, ho, ht⟩; { exact absurd h8 (by omega) }; { rw [h9] at ho; have e9 : off = (679 : Int) := (Option.some.inj (show some (679 : Int) = some off from ho)).symm; omega }
      · rcases ht with ⟨h8, -⟩ | ⟨-, -, off, ho, ht⟩; { exact absurd h8 (by omega) }; { rw [h9] at ho; have e9 : off = (679 : Int) := (Option.some.inj (show some (679 : Int) = some off from ho)).symm; omega }
      · rcases ht with ⟨h8, -⟩ | ⟨-, -, off, ho, ht⟩; { exact absurd h8 (by omega) }; { rw [h9] at ho; have e9 : off = (679 : Int) := (Option.some.inj (show some (679 : Int) = some off from ho)).symm; omega }
      · rcases ht with ⟨h8, -⟩ | ⟨-, -, off, ho, ht⟩; { exact absurd h8 (by omega) }; { rw [h9] at ho; have e9 : off = (679 : Int) := (Option.some.inj (show some (679 : Int) = some off from ho)).symm; omega }
      · rcases ht with ⟨h8, -⟩ | ⟨-, -, off, ho, ht⟩; { exact absurd h8 (by omega) }; { rw [h9] at ho; have e9 : off = (679 : Int) := (Option.some.inj (show some (679 : Int) = some off from ho)).symm; omega }
      · rcases ht with ⟨h8, -⟩ | ⟨-, -, off, ho, ht⟩; { exact absurd h8 (by omega) }; { rw [h9] at ho; have e9 : off = (679 : Int) := (Option.some.inj (show some (679 : Int) = some off from ho)).symm; omega }
      · rcases ht with ⟨h8, -⟩ | ⟨-, -, off, ho, ht⟩; { exact absurd h8 (by omega) }; { rw [h9] at ho; have e9 : off = (679 : Int) := (Option.some.inj (show some (679 : Int) = some off from ho)).symm; omega }
      · rcases ht with ⟨h8, -⟩ | ⟨-, -, off, ho, ht⟩; { exact absurd h8 (by omega) }; { rw [h9] at ho; have e9 : off = (679 : Int) := (Option.some.inj (show some (679 : Int) = some off from ho)).symm; omega }
      · rcases ht with ⟨h8, -⟩ | ⟨-, -, off, ho, ht⟩; { exact absurd h8 (by omega) }; { rw [h9] at ho; have e9 : off = (679 : Int) := (Option.some.inj (show some (679 : Int) = some off from ho)).symm; omega }
      · rcases ht with ⟨h8, -⟩ | ⟨-, -, off, ho, ht⟩; { exact absurd h8 (by omega) }; { rw [h9] at ho; have e9 : off = (679 : Int) := (Option.some.inj (show some (679 : Int) = some off from ho)).symm; omega }
      · rcases ht with ⟨h8, -⟩ | ⟨-, -, off, ho, ht⟩; { exact absurd h8 (by omega) }; { rw [h9] at ho; have e9 : off = (679 : Int) := (Option.some.inj (show some (679 : Int) = some off from ho)).symm; omega }
      · rcases ht with ⟨h8, -⟩ | ⟨-, -, off, ho, ht⟩; { exact absurd h8 (by omega) }; { rw [h9] at ho; have e9 : off = (679 : Int) := (Option.some.inj (show some (679 : Int) = some off from ho)).symm; omega }
      · rcases ht with ⟨h8, -⟩ | ⟨-, -, off, ho, ht⟩; { exact absurd h8 (by omega) }; { rw [h9] at ho; have e9 : off = (679 : Int) := (Option.some.inj (show some (679 : Int) = some off from ho)).symm; omega }
      · rcases ht with ⟨h8, -⟩ | ⟨-, -, off, ho, ht⟩; { exact absurd h8 (by omega) }; { rw [h9] at ho; have e9 : off = (679 : Int) := (Option.some.inj (show some (679 : Int) = some off from ho)).symm; omega }
      · rcases ht with ⟨h8, -⟩ | ⟨-, -, off, ho, ht⟩; { exact absurd h8 (by omega) }; { rw [h9] at ho; have e9 : off = (679 : Int) := (Option.some.inj (show some (679 : Int) = some off from ho)).symm; omega }
      · rcases ht with ⟨h8, -⟩ | ⟨-, -, off, ho, ht⟩; { exact absurd h8 (by omega) }; { rw [h9] at ho; have e9 : off = (679 : Int) := (Option.some.inj (show some (679 : Int) = some off from ho)).symm; omega }
      · rcases ht with ⟨h8, -⟩ | ⟨-, -, off, ho, ht⟩; { exact absurd h8 (by omega) }; { rw [h9] at ho; have e9 : off = (679 : Int) := (Option.some.inj (show some (679 : Int) = some off from ho)).symm; omega }
      · rcases ht with ⟨h8, -⟩ | ⟨-, -, off, ho, ht⟩; { exact absurd h8 (by omega) }; { rw [h9] at ho; have e9 : off = (679 : Int) := (Option.some.inj (show some (679 : Int) = some off from ho)).symm; omega }
      · rcases ht with ⟨h8, -⟩ | ⟨-, -, off, ho, ht⟩; { exact absurd h8 (by omega) }; { rw [h9] at ho; have e9 : off = (679 : Int) := (Option.some.inj (show some (679 : Int) = some off from ho)).symm; omega }
      · rcases ht with ⟨h8, -⟩ | ⟨-, -, off, ho, ht⟩; { exact absurd h8 (by omega) }; { rw [h9] at ho; have e9 : off = (679 : Int) := (Option.some.inj (show some (679 : Int) = some off from ho)).symm; omega }
      · rcases ht with ⟨h8, -⟩ | ⟨-, -, off, ho, ht⟩; { exact absurd h8 (by omega) }; { rw [h9] at ho; have e9 : off = (679 : Int) := (Option.some.inj (show some (679 : Int) = some off from ho)).symm; omega }
      · rcases ht with ⟨h8, -⟩ | ⟨-, -, off, ho, ht⟩; { exact absurd h8 (by omega) }; { rw [h9] at ho; have e9 : off = (679 : Int) := (Option.some.inj (show some (679 : Int) = some off from ho)).symm; omega }
      · rcases ht with ⟨h8, -⟩ | ⟨-, -, off, ho, ht⟩; { exact absurd h8 (by omega) }; { rw [h9] at ho; have e9 : off = (679 : Int) := (Option.some.inj (show some (679 : Int) = some off from ho)).symm; omega }
      · rcases ht with ⟨h8, -⟩ | ⟨-, -, off, ho, ht⟩; { exact absurd h8 (by omega) }; { rw [h9] at ho; have e9 : off = (679 : Int) := (Option.some.inj (show some (679 : Int) = some off from ho)).symm; omega }
      · rcases ht with ⟨h8, -⟩ | ⟨-, -, off, ho, ht⟩; { exact absurd h8 (by omega) }; { rw [h9] at ho; have e9 : off = (679 : Int) := (Option.some.inj (show some (679 : Int) = some off from ho)).symm; omega }
      · rcases ht with ⟨h8, -⟩ | ⟨-, -, off, ho, ht⟩; { exact absurd h8 (by omega) }; { rw [h9] at ho; have e9 : off = (679 : Int) := (Option.some.inj (show some (679 : Int) = some off from ho)).symm; omega }
      · rcases ht with ⟨h8, -⟩ | ⟨-, -, off, ho, ht⟩; { exact absurd h8 (by omega) }; { rw [h9] at ho; have e9 : off = (679 : Int) := (Option.some.inj (show some (679 : Int) = some off from ho)).symm; omega }
      · rcases ht with ⟨h8, -⟩ | ⟨-, -, off, ho, ht⟩; { exact absurd h8 (by omega) }; { rw [h9] at ho; have e9 : off = (679 : Int) := (Option.some.inj (show some (679 : Int) = some off from ho)).symm; omega }
      · rcases ht with ⟨h8, -⟩ | ⟨-, -, off, ho, ht⟩; { exact absurd h8 (by omega) }; { rw [h9] at ho; have e9 : off = (679 : Int) := (Option.some.inj (show some (679 : Int) = some off from ho)).symm; omega }
      · rcases ht with ⟨h8, -⟩ | ⟨-, -, off, ho, ht⟩; { exact absurd h8 (by omega) }; { rw [h9] at ho; have e9 : off = (679 : Int) := (Option.some.inj (show some (679 : Int) = some off from ho)).symm; omega }
      · rcases ht with ⟨h8, -⟩ | ⟨-, -, off, ho, ht⟩; { exact absurd h8 (by omega) }; { rw [h9] at ho; have e9 : off = (679 : Int) := (Option.some.inj (show some (679 : Int) = some off from ho)).symm; omega }
      · rcases ht with ⟨h8, -⟩ | ⟨-, -, off, ho, ht⟩; { exact absurd h8 (by omega) }; { rw [h9] at ho; have e9 : off = (679 : Int) := (Option.some.inj (show some (679 : Int) = some off from ho)).symm; omega }
      · rcases ht with ⟨h8, -⟩ | ⟨-, -, off, ho, ht⟩; { exact absurd h8 (by omega) }; { rw [h9] at ho; have e9 : off = (679 : Int) := (Option.some.inj (show some (679 : Int) = some off from ho)).symm; omega }
      · rcases ht with ⟨h8, -⟩ | ⟨-, -, off, ho, ht⟩; { exact absurd h8 (by omega) }; { rw [h9] at ho; have e9 : off = (679 : Int) := (Option.some.inj (show some (679 : Int) = some off from ho)).symm; omega }
      · rcases ht with ⟨h8, -⟩ | ⟨-, -, off, ho, ht⟩; { exact absurd h8 (by omega) }; { rw [h9] at ho; have e9 : off = (679 : Int) := (Option.some.inj (show some (679 : Int) = some off from ho)).symm; omega }
      · rcases ht with ⟨h8, -⟩ | ⟨-, -, off, ho, ht⟩; { exact absurd h8 (by omega) }; { rw [h9] at ho; have e9 : off = (679 : Int) := (Option.some.inj (show some (679 : Int) = some off from ho)).symm; omega }
      · rcases ht with ⟨h8, -⟩ | ⟨-, -, off, ho, ht⟩; { exact absurd h8 (by omega) }; { rw [h9] at ho; have e9 : off = (679 : Int) := (Option.some.inj (show some (679 : Int) = some off from ho)).symm; omega }
      · rcases ht with ⟨h8, -⟩ | ⟨-, -, off, ho, ht⟩; { exact absurd h8 (by omega) }; { rw [h9] at ho; have e9 : off = (679 : Int) := (Option.some.inj (show some (679 : Int) = some off from ho)).symm; omega }
      · rcases ht with ⟨h8, -⟩ | ⟨-, -, off, ho, ht⟩; { exact absurd h8 (by omega) }; { rw [h9] at ho; have e9 : off = (679 : Int) := (Option.some.inj (show some (679 : Int) = some off from ho)).symm; omega }
      · rcases ht with ⟨h8, -⟩ | ⟨-, -, off, ho, ht⟩; { exact absurd h8 (by omega) }; { rw [h9] at ho; have e9 : off = (679 : Int) := (Option.some.inj (show some (679 : Int) = some off from ho)).symm; omega }
      · rcases ht with ⟨h8, -⟩ | ⟨-, -, off, ho, ht⟩; { exact absurd h8 (by omega) }; { rw [h9] at ho; have e9 : off = (679 : Int) := (Option.some.inj (show some (679 : Int) = some off from ho)).symm; omega }
      · rcases ht with ⟨h8, -⟩ | ⟨-, -, off, ho, ht⟩; { exact absurd h8 (by omega) }; { rw [h9] at ho; have e9 : off = (679 : Int) := (Option.some.inj (show some (679 : Int) = some off from ho)).symm; omega }
      · rcases ht with ⟨h8, -⟩ | ⟨-, -, off, ho, ht⟩; { exact absurd h8 (by omega) }; { rw [h9] at ho; have e9 : off = (679 : Int) := (Option.some.inj (show some (679 : Int) = some off from ho)).symm; omega }
      · rcases ht with ⟨h8, -⟩ | ⟨-, -, off, ho, ht⟩; { exact absurd h8 (by omega) }; { rw [h9] at ho; have e9 : off = (679 : Int) := (Option.some.inj (show some (679 : Int) = some off from ho)).symm; omega }
      · rcases ht with ⟨h8, -⟩ | ⟨-, -, off, ho, ht⟩; { exact absurd h8 (by omega) }; { rw [h9] at ho; have e9 : off = (679 : Int) := (Option.some.inj (show some (679 : Int) = some off from ho)).symm; omega }
      · rcases ht with ⟨h8, -⟩ | ⟨-, -, off, ho, ht⟩; { exact absurd h8 (by omega) }; { rw [h9] at ho; have e9 : off = (679 : Int) := (Option.some.inj (show some (679 : Int) = some off from ho)).symm; omega }
      · rcases ht with ⟨h8, -⟩ | ⟨-, -, off, ho, ht⟩; { exact absurd h8 (by omega) }; { rw [h9] at ho; have e9 : off = (679 : Int) := (Option.some.inj (show some (679 : Int) = some off from ho)).symm; omega }
      · rcases ht with ⟨h8, -⟩ | ⟨-, -, off, ho, ht⟩; { exact absurd h8 (by omega) }; { rw [h9] at ho; have e9 : off = (679 : Int) := (Option.some.inj (show some (679 : Int) = some off from ho)).symm; omega }
      · rcases ht with ⟨h8, -⟩ | ⟨-, -, off, ho, ht⟩; { exact absurd h8 (by omega) }; { rw [h9] at ho; have e9 : off = (679 : Int) := (Option.some.inj (show some (679 : Int) = some off from ho)).symm; omega }
      · rcases ht with ⟨h8, -⟩ | ⟨-, -, off, ho, ht⟩; { exact absurd h8 (by omega) }; { rw [h9] at ho; have e9 : off = (679 : Int) := (Option.some.inj (show some (679 : Int) = some off from ho)).symm; omega }
      · rcases ht with ⟨h8, -⟩ | ⟨-, -, off, ho, ht⟩; { exact absurd h8 (by omega) }; { rw [h9] at ho; have e9 : off = (679 : Int) := (Option.some.inj (show some (679 : Int) = some off from ho)).symm; omega }
      · rcases ht with ⟨h8, -⟩ | ⟨-, -, off, ho, ht⟩; { exact absurd h8 (by omega) }; { rw [h9] at ho; have e9 : off = (679 : Int) := (Option.some.inj (show some (679 : Int) = some off from ho)).symm; omega }
      · rcases ht with ⟨h8, -⟩ | ⟨-, -, off, ho, ht⟩; { exact absurd h8 (by omega) }; { rw [h9] at ho; have e9 : off = (679 : Int) := (Option.some.inj (show some (679 : Int) = some off from ho)).symm; omega }
      · rcases ht with ⟨h8, -⟩ | ⟨-, -, off, ho, ht⟩; { exact absurd h8 (by omega) }; { rw [h9] at ho; have e9 : off = (679 : Int) := (Option.some.inj (show some (679 : Int) = some off from ho)).symm; omega }
      · rcases ht with ⟨h8, -⟩ | ⟨-, -, off, ho, ht⟩; { exact absurd h8 (by omega) }; { rw [h9] at ho; have e9 : off = (679 : Int) := (Option.some.inj (show some (679 : Int) = some off from ho)).symm; omega }
      · rcases ht with ⟨h8, -⟩ | ⟨-, -, off, ho, ht⟩; { exact absurd h8 (by omega) }; { rw [h9] at ho; have e9 : off = (679 : Int) := (Option.some.inj (show some (679 : Int) = some off from ho)).symm; omega }
      · rcases ht with ⟨h8, -⟩ | ⟨-, -, off, ho, ht⟩; { exact absurd h8 (by omega) }; { rw [h9] at ho; have e9 : off = (679 : Int) := (Option.some.inj (show some (679 : Int) = some off from ho)).symm; omega }
      · rcases ht with ⟨h8, -⟩ | ⟨-, -, off, ho, ht⟩; { exact absurd h8 (by omega) }; { rw [h9] at ho; have e9 : off = (679 : Int) := (Option.some.inj (show some (679 : Int) = some off from ho)).symm; omega }
      · rcases ht with ⟨h8, -⟩ | ⟨-, -, off, ho, ht⟩; { exact absurd h8 (by omega) }; { rw [h9] at ho; have e9 : off = (679 : Int) := (Option.some.inj (show some (679 : Int) = some off from ho)).symm; omega }
      · rcases ht with ⟨h8, -⟩ | ⟨-, -, off, ho, ht⟩; { exact absurd h8 (by omega) }; { rw [h9] at ho; have e9 : off = (679 : Int) := (Option.some.inj (show some (679 : Int) = some off from ho)).symm; omega }
      · rcases ht with ⟨h8, -⟩ | ⟨-, -, off, ho, ht⟩; { exact absurd h8 (by omega) }; { rw [h9] at ho; have e9 : off = (679 : Int) := (Option.some.inj (show some (679 : Int) = some off from ho)).symm; omega }
      · rcases ht with ⟨h8, -⟩ | ⟨-, -, off, ho, ht⟩; { exact absurd h8 (by omega) }; { rw [h9] at ho; have e9 : off = (679 : Int) := (Option.some.inj (show some (679 : Int) = some off from ho)).symm; omega }
      · rcases ht with ⟨h8, -⟩ | ⟨-, -, off, ho, ht⟩; { exact absurd h8 (by omega) }; { rw [h9] at ho; have e9 : off = (679 : Int) := (Option.some.inj (show some (679 : Int) = some off from ho)).symm; omega }
      · rcases ht with ⟨h8, -⟩ | ⟨-, -, off, ho, ht⟩; { exact absurd h8 (by omega) }; { rw [h9] at ho; have e9 : off = (679 : Int) := (Option.some.inj (show some (679 : Int) = some off from ho)).symm; omega }
      · rcases ht with ⟨h8, -⟩ | ⟨-, -, off, ho, ht⟩; { exact absurd h8 (by omega) }; { rw [h9] at ho; have e9 : off = (679 : Int) := (Option.some.inj (show some (679 : Int) = some off from ho)).symm; omega }
      · rcases ht with ⟨h8, -⟩ | ⟨-, -, off, ho, ht⟩; { exact absurd h8 (by omega) }; { rw [h9] at ho; have e9 : off = (679 : Int) := (Option.some.inj (show some (679 : Int) = some off from ho)).symm; omega }
      · rcases ht with ⟨h8, -⟩ | ⟨-, -, off, ho, ht⟩; { exact absurd h8 (by omega) }; { rw [h9] at ho; have e9 : off = (679 : Int) := (Option.some.inj (show some (679 : Int) = some off from ho)).symm; omega }
      · rcases ht with ⟨h8, -⟩ | ⟨-, -, off, ho, ht⟩; { exact absurd h8 (by omega) }; { rw [h9] at ho; have e9 : off = (679 : Int) := (Option.some.inj (show some (679 : Int) = some off from ho)).symm; omega }
      · rcases ht with ⟨h8, -⟩ | ⟨-, -, off, ho, ht⟩; { exact absurd h8 (by omega) }; { rw [h9] at ho; have e9 : off = (679 : Int) := (Option.some.inj (show some (679 : Int) = some off from ho)).symm; omega }
      · rcases ht with ⟨h8, -⟩ | ⟨-, -, off, ho, ht⟩; { exact absurd h8 (by omega) }; { rw [h9] at ho; have e9 : off = (679 : Int) := (Option.some.inj (show some (679 : Int) = some off from ho)).symm; omega }
      · rcases ht with ⟨h8, -⟩ | ⟨-, -, off, ho, ht⟩; { exact absurd h8 (by omega) }; { rw [h9] at ho; have e9 : off = (679 : Int) := (Option.some.inj (show some (679 : Int) = some off from ho)).symm; omega }
      · rcases ht with ⟨h8, -⟩ | ⟨-, -, off, ho, ht⟩; { exact absurd h8 (by omega) }; { rw [h9] at ho; have e9 : off = (679 : Int) := (Option.some.inj (show some (679 : Int) = some off from ho)).symm; omega }
      · rcases ht with ⟨h8, -⟩ | ⟨-, -, off, ho, ht⟩; { exact absurd h8 (by omega) }; { rw [h9] at ho; have e9 : off = (679 : Int) := (Option.some.inj (show some (679 : Int) = some off from ho)).symm; omega }
      · rcases ht with ⟨h8, -⟩ | ⟨-, -, off, ho, ht⟩; { exact absurd h8 (by omega) }; { rw [h9] at ho; have e9 : off = (679 : Int) := (Option.some.inj (show some (679 : Int) = some off from ho)).symm; omega }
      · rcases ht with ⟨h8, -⟩ | ⟨-, -, off, ho, ht⟩; { exact absurd h8 (by omega) }; { rw [h9] at ho; have e9 : off = (679 : Int) := (Option.some.inj (show some (679 : Int) = some off from ho)).symm; omega }
      · rcases ht with ⟨h8, -⟩ | ⟨-, -, off, ho, ht⟩; { exact absurd h8 (by omega) }; { rw [h9] at ho; have e9 : off = (679 : Int) := (Option.some.inj (show some (679 : Int) = some off from ho)).symm; omega }
      · rcases ht with ⟨h8, -⟩ | ⟨-, -, off, ho, ht⟩; { exact absurd h8 (by omega) }; { rw [h9] at ho; have e9 : off = (679 : Int) := (Option.some.inj (show some (679 : Int) = some off from ho)).symm; omega }
      · rcases ht with ⟨h8, -⟩ | ⟨-, -, off, ho, ht⟩; { exact absurd h8 (by omega) }; { rw [h9] at ho; have e9 : off = (679 : Int) := (Option.some.inj (show some (679 : Int) = some off from ho)).symm; omega }
      · rcases ht with ⟨h8, -⟩ | ⟨-, -, off, ho, ht⟩; { exact absurd h8 (by omega) }; { rw [h9] at ho; have e9 : off = (679 : Int) := (Option.some.inj (show some (679 : Int) = some off from ho)).symm; omega }
      · rcases ht with ⟨h8, -⟩ | ⟨-, -, off, ho, ht⟩; { exact absurd h8 (by omega) }; { rw [h9] at ho; have e9 : off = (679 : Int) := (Option.some.inj (show some (679 : Int) = some off from ho)).symm; omega }
      · rcases ht with ⟨h8, -⟩ | ⟨-, -, off, ho, ht⟩; { exact absurd h8 (by omega) }; { rw [h9] at ho; have e9 : off = (679 : Int) := (Option.some.inj (show some (679 : Int) = some off from ho)).symm; omega }
    subst et
    refine pw_iloadn (aX9_shape 45 rfl) rfl ?_
    refine pw_bipush (v := (25 : Int32)) (aX9_shape 46 rfl) rfl ?_
    refine pw_iclt (tgt := 726) (aX9_shape 47 rfl) (by decide) (fun b2 => ?_) (fun b2 => ?_)
    · skip
      refine pw_bipush (v := (25 : Int32)) (aX9_shape 53 rfl) rfl ?_
      exact pw_iret (aX9_shape 54 rfl) hok
    · skip
      refine pw_iloadn (aX9_shape 48 rfl) rfl ?_
      refine pw_bipush (v := (46 : Int32)) (aX9_shape 49 rfl) rfl ?_
      refine pw_icgt (tgt := 726) (aX9_shape 50 rfl) (by decide) (fun b3 => ?_) (fun b3 => ?_)
      · skip
        refine pw_bipush (v := (25 : Int32)) (aX9_shape 53 rfl) rfl ?_
        exact pw_iret (aX9_shape 54 rfl) hok
      · skip
        refine pw_iconst (v := (0 : Int32)) (aX9_shape 51 rfl) rfl ?_
        refine pw_goto (tgt := 728) (aX9_shape 52 rfl) (by decide) ?_
        exact pw_iret (aX9_shape 54 rfl) hok
  skip
  refine pw_case ((a1).toInt = 6 ∨ (a1).toInt = 18 ∨ (a1).toInt = 19 ∨ (a1).toInt = 20 ∨ (a1).toInt = 22 ∨ (a1).toInt = 23 ∨ (a1).toInt = 150 ∨ (a1).toInt = 151 ∨ (a1).toInt = 155 ∨ (a1).toInt = 156 ∨ (a1).toInt = 159) (fun b5 => ?_) (fun b5 => ?_)
  · have et : tg = 708 := by
      rcases b5 with h9 | h9 | h9 | h9 | h9 | h9 | h9 | h9 | h9 | h9 | h9
      · rcases ht with ⟨h8, -⟩ | ⟨-, -, off, ho, ht⟩; { exact absurd h8 (by omega) }; { rw [h9] at ho; have e9 : off = (677 : Int) := (Option.some.inj (show some (677 : Int) = some off from ho)).symm; omega }
      · rcases ht with ⟨h8, -⟩ | ⟨-, -, off, ho, ht⟩; { exact absurd h8 (by omega) }; { rw [h9] at ho; have e9 : off = (677 : Int) := (Option.some.inj (show some (677 : Int) = some off from ho)).symm; omega }
      · rcases ht with ⟨h8, -⟩ | ⟨-, -, off, ho, ht⟩; { exact absurd h8 (by omega) }; { rw [h9] at ho; have e9 : off = (677 : Int) := (Option.some.inj (show some (677 : Int) = some off from ho)).symm; omega }
      · rcases ht with ⟨h8, -⟩ | ⟨-, -, off, ho, ht⟩; { exact absurd h8 (by omega) }; { rw [h9] at ho; have e9 : off = (677 : Int) := (Option.some.inj (show some (677 : Int) = some off from ho)).symm; omega }
      · rcases ht with ⟨h8, -⟩ | ⟨-, -, off, ho, ht⟩; { exact absurd h8 (by omega) }; { rw [h9] at ho; have e9 : off = (677 : Int) := (Option.some.inj (show some (677 : Int) = some off from ho)).symm; omega }
      · rcases ht with ⟨h8, -⟩ | ⟨-, -, off, ho, ht⟩; { exact absurd h8 (by omega) }; { rw [h9] at ho; have e9 : off = (677 : Int) := (Option.some.inj (show some (677 : Int) = some off from ho)).symm; omega }
      · rcases ht with ⟨h8, -⟩ | ⟨-, -, off, ho, ht⟩; { exact absurd h8 (by omega) }; { rw [h9] at ho; have e9 : off = (677 : Int) := (Option.some.inj (show some (677 : Int) = some off from ho)).symm; omega }
      · rcases ht with ⟨h8, -⟩ | ⟨-, -, off, ho, ht⟩; { exact absurd h8 (by omega) }; { rw [h9] at ho; have e9 : off = (677 : Int) := (Option.some.inj (show some (677 : Int) = some off from ho)).symm; omega }
      · rcases ht with ⟨h8, -⟩ | ⟨-, -, off, ho, ht⟩; { exact absurd h8 (by omega) }; { rw [h9] at ho; have e9 : off = (677 : Int) := (Option.some.inj (show some (677 : Int) = some off from ho)).symm; omega }
      · rcases ht with ⟨h8, -⟩ | ⟨-, -, off, ho, ht⟩; { exact absurd h8 (by omega) }; { rw [h9] at ho; have e9 : off = (677 : Int) := (Option.some.inj (show some (677 : Int) = some off from ho)).symm; omega }
      · rcases ht with ⟨h8, -⟩ | ⟨-, -, off, ho, ht⟩; { exact absurd h8 (by omega) }; { rw [h9] at ho; have e9 : off = (677 : Int) := (Option.some.inj (show some (677 : Int) = some off from ho)).symm; omega }
    subst et
    refine pw_iconst (v := (0 : Int32)) (aX9_shape 43 rfl) rfl ?_
    exact pw_iret (aX9_shape 44 rfl) hok
  skip
  refine pw_case ((a1).toInt = 8 ∨ (a1).toInt = 21 ∨ (a1).toInt = 148) (fun b6 => ?_) (fun b6 => ?_)
  · have et : tg = 672 := by
      rcases b6 with h9 | h9 | h9
      · rcases ht with ⟨h8, -⟩ | ⟨-, -, off, ho, ht⟩; { exact absurd h8 (by omega) }; { rw [h9] at ho; have e9 : off = (641 : Int) := (Option.some.inj (show some (641 : Int) = some off from ho)).symm; omega }
      · rcases ht with ⟨h8, -⟩ | ⟨-, -, off, ho, ht⟩; { exact absurd h8 (by omega) }; { rw [h9] at ho; have e9 : off = (641 : Int) := (Option.some.inj (show some (641 : Int) = some off from ho)).symm; omega }
      · rcases ht with ⟨h8, -⟩ | ⟨-, -, off, ho, ht⟩; { exact absurd h8 (by omega) }; { rw [h9] at ho; have e9 : off = (641 : Int) := (Option.some.inj (show some (641 : Int) = some off from ho)).symm; omega }
    subst et
    refine pw_iconst (v := (1 : Int32)) (aX9_shape 17 rfl) rfl ?_
    exact pw_iret (aX9_shape 18 rfl) hok
  skip
  refine pw_case ((a1).toInt = 9) (fun b7 => ?_) (fun b7 => ?_)
  · have et : tg = 681 := by
      rcases ht with ⟨h8, -⟩ | ⟨-, -, off, ho, ht⟩; { exact absurd h8 (by omega) }; { rw [b7] at ho; have e9 : off = (650 : Int) := (Option.some.inj (show some (650 : Int) = some off from ho)).symm; omega }
    subst et
    refine pw_bipush (v := (11 : Int32)) (aX9_shape 25 rfl) rfl ?_
    exact pw_iret (aX9_shape 26 rfl) hok
  skip
  refine pw_case ((a1).toInt = 10 ∨ (a1).toInt = 152) (fun b8 => ?_) (fun b8 => ?_)
  · have et : tg = 674 := by
      rcases b8 with h9 | h9
      · rcases ht with ⟨h8, -⟩ | ⟨-, -, off, ho, ht⟩; { exact absurd h8 (by omega) }; { rw [h9] at ho; have e9 : off = (643 : Int) := (Option.some.inj (show some (643 : Int) = some off from ho)).symm; omega }
      · rcases ht with ⟨h8, -⟩ | ⟨-, -, off, ho, ht⟩; { exact absurd h8 (by omega) }; { rw [h9] at ho; have e9 : off = (643 : Int) := (Option.some.inj (show some (643 : Int) = some off from ho)).symm; omega }
    subst et
    refine pw_iconst (v := (2 : Int32)) (aX9_shape 19 rfl) rfl ?_
    exact pw_iret (aX9_shape 20 rfl) hok
  skip
  refine pw_case ((a1).toInt = 11 ∨ (a1).toInt = 40 ∨ (a1).toInt = 47) (fun b9 => ?_) (fun b9 => ?_)
  · have et : tg = 684 := by
      rcases b9 with h9 | h9 | h9
      · rcases ht with ⟨h8, -⟩ | ⟨-, -, off, ho, ht⟩; { exact absurd h8 (by omega) }; { rw [h9] at ho; have e9 : off = (653 : Int) := (Option.some.inj (show some (653 : Int) = some off from ho)).symm; omega }
      · rcases ht with ⟨h8, -⟩ | ⟨-, -, off, ho, ht⟩; { exact absurd h8 (by omega) }; { rw [h9] at ho; have e9 : off = (653 : Int) := (Option.some.inj (show some (653 : Int) = some off from ho)).symm; omega }
      · rcases ht with ⟨h8, -⟩ | ⟨-, -, off, ho, ht⟩; { exact absurd h8 (by omega) }; { rw [h9] at ho; have e9 : off = (653 : Int) := (Option.some.inj (show some (653 : Int) = some off from ho)).symm; omega }
    subst et
    refine pw_bipush (v := (12 : Int32)) (aX9_shape 27 rfl) rfl ?_
    exact pw_iret (aX9_shape 28 rfl) hok
  skip
  refine pw_case ((a1).toInt = 12 ∨ (a1).toInt = 153) (fun b10 => ?_) (fun b10 => ?_)
  · have et : tg = 676 := by
      rcases b10 with h9 | h9
      · rcases ht with ⟨h8, -⟩ | ⟨-, -, off, ho, ht⟩; { exact absurd h8 (by omega) }; { rw [h9] at ho; have e9 : off = (645 : Int) := (Option.some.inj (show some (645 : Int) = some off from ho)).symm; omega }
      · rcases ht with ⟨h8, -⟩ | ⟨-, -, off, ho, ht⟩; { exact absurd h8 (by omega) }; { rw [h9] at ho; have e9 : off = (645 : Int) := (Option.some.inj (show some (645 : Int) = some off from ho)).symm; omega }
    subst et
    refine pw_iconst (v := (4 : Int32)) (aX9_shape 21 rfl) rfl ?_
    exact pw_iret (aX9_shape 22 rfl) hok
  skip
  refine pw_case ((a1).toInt = 13) (fun b11 => ?_) (fun b11 => ?_)
  · have et : tg = 687 := by
      rcases ht with ⟨h8, -⟩ | ⟨-, -, off, ho, ht⟩; { exact absurd h8 (by omega) }; { rw [b11] at ho; have e9 : off = (656 : Int) := (Option.some.inj (show some (656 : Int) = some off from ho)).symm; omega }
    subst et
    refine pw_bipush (v := (14 : Int32)) (aX9_shape 29 rfl) rfl ?_
    exact pw_iret (aX9_shape 30 rfl) hok
  skip
  refine pw_case ((a1).toInt = 15) (fun b12 => ?_) (fun b12 => ?_)
  · have et : tg = 690 := by
      rcases ht with ⟨h8, -⟩ | ⟨-, -, off, ho, ht⟩; { exact absurd h8 (by omega) }; { rw [b12] at ho; have e9 : off = (659 : Int) := (Option.some.inj (show some (659 : Int) = some off from ho)).symm; omega }
    subst et
    refine pw_bipush (v := (18 : Int32)) (aX9_shape 31 rfl) rfl ?_
    exact pw_iret (aX9_shape 32 rfl) hok
  skip
  refine pw_case ((a1).toInt = 16 ∨ (a1).toInt = 35 ∨ (a1).toInt = 144 ∨ (a1).toInt = 147) (fun b13 => ?_) (fun b13 => ?_)
  · have et : tg = 693 := by
      rcases b13 with h9 | h9 | h9 | h9
      · rcases ht with ⟨h8, -⟩ | ⟨-, -, off, ho, ht⟩; { exact absurd h8 (by omega) }; { rw [h9] at ho; have e9 : off = (662 : Int) := (Option.some.inj (show some (662 : Int) = some off from ho)).symm; omega }
      · rcases ht with ⟨h8, -⟩ | ⟨-, -, off, ho, ht⟩; { exact absurd h8 (by omega) }; { rw [h9] at ho; have e9 : off = (662 : Int) := (Option.some.inj (show some (662 : Int) = some off from ho)).symm; omega }
      · rcases ht with ⟨h8, -⟩ | ⟨-, -, off, ho, ht⟩; { exact absurd h8 (by omega) }; { rw [h9] at ho; have e9 : off = (662 : Int) := (Option.some.inj (show some (662 : Int) = some off from ho)).symm; omega }
      · rcases ht with ⟨h8, -⟩ | ⟨-, -, off, ho, ht⟩; { exact absurd h8 (by omega) }; { rw [h9] at ho; have e9 : off = (662 : Int) := (Option.some.inj (show some (662 : Int) = some off from ho)).symm; omega }
    subst et
    refine pw_bipush (v := (20 : Int32)) (aX9_shape 33 rfl) rfl ?_
    exact pw_iret (aX9_shape 34 rfl) hok
  skip
  refine pw_case ((a1).toInt = 17 ∨ (a1).toInt = 145) (fun b14 => ?_) (fun b14 => ?_)
  · have et : tg = 696 := by
      rcases b14 with h9 | h9
      · rcases ht with ⟨h8, -⟩ | ⟨-, -, off, ho, ht⟩; { exact absurd h8 (by omega) }; { rw [h9] at ho; have e9 : off = (665 : Int) := (Option.some.inj (show some (665 : Int) = some off from ho)).symm; omega }
      · rcases ht with ⟨h8, -⟩ | ⟨-, -, off, ho, ht⟩; { exact absurd h8 (by omega) }; { rw [h9] at ho; have e9 : off = (665 : Int) := (Option.some.inj (show some (665 : Int) = some off from ho)).symm; omega }
    subst et
    refine pw_bipush (v := (21 : Int32)) (aX9_shape 35 rfl) rfl ?_
    exact pw_iret (aX9_shape 36 rfl) hok
  skip
  refine pw_case ((a1).toInt = 146) (fun b15 => ?_) (fun b15 => ?_)
  · have et : tg = 699 := by
      rcases ht with ⟨h8, -⟩ | ⟨-, -, off, ho, ht⟩; { exact absurd h8 (by omega) }; { rw [b15] at ho; have e9 : off = (668 : Int) := (Option.some.inj (show some (668 : Int) = some off from ho)).symm; omega }
    subst et
    refine pw_bipush (v := (22 : Int32)) (aX9_shape 37 rfl) rfl ?_
    exact pw_iret (aX9_shape 38 rfl) hok
  skip
  refine pw_case ((a1).toInt = 157) (fun b16 => ?_) (fun b16 => ?_)
  · have et : tg = 702 := by
      rcases ht with ⟨h8, -⟩ | ⟨-, -, off, ho, ht⟩; { exact absurd h8 (by omega) }; { rw [b16] at ho; have e9 : off = (671 : Int) := (Option.some.inj (show some (671 : Int) = some off from ho)).symm; omega }
    subst et
    refine pw_bipush (v := (23 : Int32)) (aX9_shape 39 rfl) rfl ?_
    exact pw_iret (aX9_shape 40 rfl) hok
  skip
  refine pw_case ((a1).toInt = 158) (fun b17 => ?_) (fun b17 => ?_)
  · have et : tg = 705 := by
      rcases ht with ⟨h8, -⟩ | ⟨-, -, off, ho, ht⟩; { exact absurd h8 (by omega) }; { rw [b17] at ho; have e9 : off = (674 : Int) := (Option.some.inj (show some (674 : Int) = some off from ho)).symm; omega }
    subst et
    refine pw_bipush (v := (24 : Int32)) (aX9_shape 41 rfl) rfl ?_
    exact pw_iret (aX9_shape 42 rfl) hok
  skip
  have et : tg = 710 := by
    rcases ht with ⟨-, h8⟩ | ⟨h1, h2, -⟩; { omega }; { exfalso; omega }
  subst et
  refine pw_iloadn (aX9_shape 45 rfl) rfl ?_
  refine pw_bipush (v := (25 : Int32)) (aX9_shape 46 rfl) rfl ?_
  refine pw_iclt (tgt := 726) (aX9_shape 47 rfl) (by decide) (fun b17 => ?_) (fun b17 => ?_)
  · skip
    refine pw_bipush (v := (25 : Int32)) (aX9_shape 53 rfl) rfl ?_
    exact pw_iret (aX9_shape 54 rfl) hok
  · skip
    refine pw_iloadn (aX9_shape 48 rfl) rfl ?_
    refine pw_bipush (v := (46 : Int32)) (aX9_shape 49 rfl) rfl ?_
    refine pw_icgt (tgt := 726) (aX9_shape 50 rfl) (by decide) (fun b18 => ?_) (fun b18 => ?_)
    · skip
      refine pw_bipush (v := (25 : Int32)) (aX9_shape 53 rfl) rfl ?_
      exact pw_iret (aX9_shape 54 rfl) hok
    · skip
      refine pw_iconst (v := (0 : Int32)) (aX9_shape 51 rfl) rfl ?_
      refine pw_goto (tgt := 728) (aX9_shape 52 rfl) (by decide) ?_
      exact pw_iret (aX9_shape 54 rfl) hok
set_option maxHeartbeats 4000000 in
set_option maxRecDepth 100000 in
theorem rX9_shape_14 {sk : xK} {base N d : Nat}  (hkb : x_kb sk base) (a1 : Int32)   (n sl : Nat) (SH : Nat → Nat × Nat) (FI : Nat → Nat → Int32) (FL : Nat → Nat → Int64) (FR : Nat → Nat → Option Nat) (hok : pk n SH FR)   : pw pj_I sk base N d none 89 14 [(0, .int (a1))] [] (n, sl, SH, FI, FL, FR) (RX9_shape_14  a1  n sl SH FI FL FR) := by
  unfold RX9_shape_14
  refine pw_iloadn (aX9_shape 8 rfl) rfl ?_
  refine pw_bipush (v := (112 : Int32)) (aX9_shape 9 rfl) rfl ?_
  refine pw_iclt (tgt := 30) (aX9_shape 10 rfl) (by decide) (fun b0 => ?_) (fun b0 => ?_)
  · skip
    exact pw_Li (L2 := [(0, .int (a1))]) [0] (rX9_shape_30 hkb a1  n sl SH FI FL FR hok  ) ⟨rfl, trivial⟩
  · skip
    refine pw_iloadn (aX9_shape 11 rfl) rfl ?_
    refine pw_sipush (v := (143 : Int32)) (aX9_shape 12 rfl) rfl ?_
    refine pw_icgt (tgt := 30) (aX9_shape 13 rfl) (by decide) (fun b1 => ?_) (fun b1 => ?_)
    · skip
      exact pw_Li (L2 := [(0, .int (a1))]) [0] (rX9_shape_30 hkb a1  n sl SH FI FL FR hok  ) ⟨rfl, trivial⟩
    · skip
      refine pw_bipush (v := (21 : Int32)) (aX9_shape 14 rfl) rfl ?_
      exact pw_iret (aX9_shape 15 rfl) hok
set_option maxHeartbeats 4000000 in
set_option maxRecDepth 100000 in
theorem rX9_shape {sk : xK} {base N d : Nat} (hkb : x_kb sk base) (a1 : Int32) (n sl : Nat) (SH : Nat → Nat × Nat) (FI : Nat → Nat → Int32) (FL : Nat → Nat → Int64) (FR : Nat → Nat → Option Nat) (hok : pk n SH FR)  : pw pj_I sk base N d none 89 0 [(0, .int (a1))] [] (n, sl, SH, FI, FL, FR) (RX9_shape a1 n sl SH FI FL FR) := by
  unfold RX9_shape
  refine pw_iloadn (aX9_shape 0 rfl) rfl ?_
  refine pw_bipush (v := (48 : Int32)) (aX9_shape 1 rfl) rfl ?_
  refine pw_iclt (tgt := 14) (aX9_shape 2 rfl) (by decide) (fun b0 => ?_) (fun b0 => ?_)
  · skip
    exact pw_Li (L2 := [(0, .int (a1))]) [0] (rX9_shape_14 hkb a1  n sl SH FI FL FR hok  ) ⟨rfl, trivial⟩
  · skip
    refine pw_iloadn (aX9_shape 3 rfl) rfl ?_
    refine pw_bipush (v := (111 : Int32)) (aX9_shape 4 rfl) rfl ?_
    refine pw_icgt (tgt := 14) (aX9_shape 5 rfl) (by decide) (fun b1 => ?_) (fun b1 => ?_)
    · skip
      exact pw_Li (L2 := [(0, .int (a1))]) [0] (rX9_shape_14 hkb a1  n sl SH FI FL FR hok  ) ⟨rfl, trivial⟩
    · skip
      refine pw_iconst (v := (0 : Int32)) (aX9_shape 6 rfl) rfl ?_
      exact pw_iret (aX9_shape 7 rfl) hok
set_option maxHeartbeats 4000000 in
set_option maxRecDepth 100000 in
theorem rX9_goesWithHold {sk : xK} {base N d : Nat} (hkb : x_kb sk base) (a1 : Int32) (n sl : Nat) (SH : Nat → Nat × Nat) (FI : Nat → Nat → Int32) (FL : Nat → Nat → Int64) (FR : Nat → Nat → Option Nat) (hok : pk n SH FR)  : pw pj_I sk base N d none 94 0 [(0, .int (a1))] [] (n, sl, SH, FI, FL, FR) (P_ret (fX9_goesWithHold a1 SH FI FL FR) (n, sl, SH, FI, FL, FR)) := by
  unfold fX9_goesWithHold
  refine pw_iloadn (aX9_goesWithHold 0 rfl) rfl ?_
  refine pw_sipush (v := (147 : Int32)) (aX9_goesWithHold 1 rfl) rfl ?_
  refine pw_ite (pw_iceq (tgt := 41) (aX9_goesWithHold 2 rfl) (by decide) (fun b0 => ?_) (fun b0 => ?_))
  · skip
    refine pw_iconst (v := (1 : Int32)) (aX9_goesWithHold 18 rfl) rfl ?_
    refine pw_goto (tgt := 46) (aX9_goesWithHold 19 rfl) (by decide) ?_
    exact pw_iret (aX9_goesWithHold 21 rfl) hok
  · skip
    refine pw_iloadn (aX9_goesWithHold 3 rfl) rfl ?_
    refine pw_sipush (v := (157 : Int32)) (aX9_goesWithHold 4 rfl) rfl ?_
    refine pw_ite (pw_iceq (tgt := 41) (aX9_goesWithHold 5 rfl) (by decide) (fun b1 => ?_) (fun b1 => ?_))
    · skip
      refine pw_iconst (v := (1 : Int32)) (aX9_goesWithHold 18 rfl) rfl ?_
      refine pw_goto (tgt := 46) (aX9_goesWithHold 19 rfl) (by decide) ?_
      exact pw_iret (aX9_goesWithHold 21 rfl) hok
    · skip
      refine pw_iloadn (aX9_goesWithHold 6 rfl) rfl ?_
      refine pw_sipush (v := (150 : Int32)) (aX9_goesWithHold 7 rfl) rfl ?_
      refine pw_ite (pw_iceq (tgt := 41) (aX9_goesWithHold 8 rfl) (by decide) (fun b2 => ?_) (fun b2 => ?_))
      · skip
        refine pw_iconst (v := (1 : Int32)) (aX9_goesWithHold 18 rfl) rfl ?_
        refine pw_goto (tgt := 46) (aX9_goesWithHold 19 rfl) (by decide) ?_
        exact pw_iret (aX9_goesWithHold 21 rfl) hok
      · skip
        refine pw_iloadn (aX9_goesWithHold 9 rfl) rfl ?_
        refine pw_bipush (v := (47 : Int32)) (aX9_goesWithHold 10 rfl) rfl ?_
        refine pw_ite (pw_iceq (tgt := 41) (aX9_goesWithHold 11 rfl) (by decide) (fun b3 => ?_) (fun b3 => ?_))
        · skip
          refine pw_iconst (v := (1 : Int32)) (aX9_goesWithHold 18 rfl) rfl ?_
          refine pw_goto (tgt := 46) (aX9_goesWithHold 19 rfl) (by decide) ?_
          exact pw_iret (aX9_goesWithHold 21 rfl) hok
        · skip
          refine pw_iloadn (aX9_goesWithHold 12 rfl) rfl ?_
          refine pw_sipush (v := (152 : Int32)) (aX9_goesWithHold 13 rfl) rfl ?_
          refine pw_ite (pw_iceq (tgt := 41) (aX9_goesWithHold 14 rfl) (by decide) (fun b4 => ?_) (fun b4 => ?_))
          · skip
            refine pw_iconst (v := (1 : Int32)) (aX9_goesWithHold 18 rfl) rfl ?_
            refine pw_goto (tgt := 46) (aX9_goesWithHold 19 rfl) (by decide) ?_
            exact pw_iret (aX9_goesWithHold 21 rfl) hok
          · skip
            refine pw_iloadn (aX9_goesWithHold 15 rfl) rfl ?_
            refine pw_sipush (v := (153 : Int32)) (aX9_goesWithHold 16 rfl) rfl ?_
            refine pw_ite (pw_icne (tgt := 45) (aX9_goesWithHold 17 rfl) (by decide) (fun b5 => ?_) (fun b5 => ?_))
            · skip
              refine pw_iconst (v := (1 : Int32)) (aX9_goesWithHold 18 rfl) rfl ?_
              refine pw_goto (tgt := 46) (aX9_goesWithHold 19 rfl) (by decide) ?_
              exact pw_iret (aX9_goesWithHold 21 rfl) hok
            · skip
              refine pw_iconst (v := (0 : Int32)) (aX9_goesWithHold 20 rfl) rfl ?_
              exact pw_iret (aX9_goesWithHold 21 rfl) hok
set_option maxHeartbeats 4000000 in
set_option maxRecDepth 100000 in
theorem rX9_compared {sk : xK} {base N d : Nat} (hkb : x_kb sk base) (a1 : Int32) (a2 : Int64) (a3 : Int64) (n sl : Nat) (SH : Nat → Nat × Nat) (FI : Nat → Nat → Int32) (FL : Nat → Nat → Int64) (FR : Nat → Nat → Option Nat) (hok : pk n SH FR)  : pw pj_I sk base N d none 114 0 [(0, .int (a1)), (1, .long (a2)), (3, .long (a3))] [] (n, sl, SH, FI, FL, FR) (P_ret (fX9_compared a1 a2 a3 SH FI FL FR) (n, sl, SH, FI, FL, FR)) := by
  unfold fX9_compared
  refine pw_iloadn (aX9_compared 0 rfl) rfl ?_
  refine pw_tsw aX9_compared_1 (fun tg ht => ?_)
  refine pw_ite (pw_case ((a1).toInt = 41) (fun b1 => ?_) (fun b1 => ?_))
  · have et : tg = 36 := by
      rcases ht with ⟨h8, -⟩ | ⟨-, -, off, ho, ht⟩; { exact absurd h8 (by omega) }; { rw [b1] at ho; have e9 : off = (35 : Int) := (Option.some.inj (show some (35 : Int) = some off from ho)).symm; omega }
    subst et
    refine pw_lloadn (aX9_compared 1 rfl) rfl ?_
    refine pw_lloadn (aX9_compared 2 rfl) rfl ?_
    refine pw_ite (pw_lcne (tgt := 46) (aX9_compared 3 rfl) (aX9_compared 4 rfl) (by decide) (fun b1 => ?_) (fun b1 => ?_))
    · skip
      refine pw_iconst (v := (1 : Int32)) (aX9_compared 5 rfl) rfl ?_
      refine pw_goto (tgt := 47) (aX9_compared 6 rfl) (by decide) ?_
      exact pw_iret (aX9_compared 8 rfl) hok
    · skip
      refine pw_iconst (v := (0 : Int32)) (aX9_compared 7 rfl) rfl ?_
      exact pw_iret (aX9_compared 8 rfl) hok
  skip
  refine pw_ite (pw_case ((a1).toInt = 42) (fun b3 => ?_) (fun b3 => ?_))
  · have et : tg = 48 := by
      rcases ht with ⟨h8, -⟩ | ⟨-, -, off, ho, ht⟩; { exact absurd h8 (by omega) }; { rw [b3] at ho; have e9 : off = (47 : Int) := (Option.some.inj (show some (47 : Int) = some off from ho)).symm; omega }
    subst et
    refine pw_lloadn (aX9_compared 9 rfl) rfl ?_
    refine pw_lloadn (aX9_compared 10 rfl) rfl ?_
    refine pw_ite (pw_lclt (tgt := 58) (aX9_compared 11 rfl) (aX9_compared 12 rfl) (by decide) (fun b3 => ?_) (fun b3 => ?_))
    · skip
      refine pw_iconst (v := (0 : Int32)) (aX9_compared 15 rfl) rfl ?_
      exact pw_iret (aX9_compared 16 rfl) hok
    · skip
      refine pw_iconst (v := (1 : Int32)) (aX9_compared 13 rfl) rfl ?_
      refine pw_goto (tgt := 59) (aX9_compared 14 rfl) (by decide) ?_
      exact pw_iret (aX9_compared 16 rfl) hok
  skip
  refine pw_ite (pw_case ((a1).toInt = 43) (fun b5 => ?_) (fun b5 => ?_))
  · have et : tg = 60 := by
      rcases ht with ⟨h8, -⟩ | ⟨-, -, off, ho, ht⟩; { exact absurd h8 (by omega) }; { rw [b5] at ho; have e9 : off = (59 : Int) := (Option.some.inj (show some (59 : Int) = some off from ho)).symm; omega }
    subst et
    refine pw_lloadn (aX9_compared 17 rfl) rfl ?_
    refine pw_lloadn (aX9_compared 18 rfl) rfl ?_
    refine pw_ite (pw_lcle (tgt := 70) (aX9_compared 19 rfl) (aX9_compared 20 rfl) (by decide) (fun b5 => ?_) (fun b5 => ?_))
    · skip
      refine pw_iconst (v := (1 : Int32)) (aX9_compared 21 rfl) rfl ?_
      refine pw_goto (tgt := 71) (aX9_compared 22 rfl) (by decide) ?_
      exact pw_iret (aX9_compared 24 rfl) hok
    · skip
      refine pw_iconst (v := (0 : Int32)) (aX9_compared 23 rfl) rfl ?_
      exact pw_iret (aX9_compared 24 rfl) hok
  skip
  refine pw_ite (pw_case ((a1).toInt = 44) (fun b7 => ?_) (fun b7 => ?_))
  · have et : tg = 72 := by
      rcases ht with ⟨h8, -⟩ | ⟨-, -, off, ho, ht⟩; { exact absurd h8 (by omega) }; { rw [b7] at ho; have e9 : off = (71 : Int) := (Option.some.inj (show some (71 : Int) = some off from ho)).symm; omega }
    subst et
    refine pw_lloadn (aX9_compared 25 rfl) rfl ?_
    refine pw_lloadn (aX9_compared 26 rfl) rfl ?_
    refine pw_ite (pw_lcgt (tgt := 82) (aX9_compared 27 rfl) (aX9_compared 28 rfl) (by decide) (fun b7 => ?_) (fun b7 => ?_))
    · skip
      refine pw_iconst (v := (0 : Int32)) (aX9_compared 31 rfl) rfl ?_
      exact pw_iret (aX9_compared 32 rfl) hok
    · skip
      refine pw_iconst (v := (1 : Int32)) (aX9_compared 29 rfl) rfl ?_
      refine pw_goto (tgt := 83) (aX9_compared 30 rfl) (by decide) ?_
      exact pw_iret (aX9_compared 32 rfl) hok
  skip
  refine pw_ite (pw_case ((a1).toInt = 45) (fun b9 => ?_) (fun b9 => ?_))
  · have et : tg = 84 := by
      rcases ht with ⟨h8, -⟩ | ⟨-, -, off, ho, ht⟩; { exact absurd h8 (by omega) }; { rw [b9] at ho; have e9 : off = (83 : Int) := (Option.some.inj (show some (83 : Int) = some off from ho)).symm; omega }
    subst et
    refine pw_lloadn (aX9_compared 33 rfl) rfl ?_
    refine pw_lloadn (aX9_compared 34 rfl) rfl ?_
    refine pw_ite (pw_lcge (tgt := 94) (aX9_compared 35 rfl) (aX9_compared 36 rfl) (by decide) (fun b9 => ?_) (fun b9 => ?_))
    · skip
      refine pw_iconst (v := (1 : Int32)) (aX9_compared 37 rfl) rfl ?_
      refine pw_goto (tgt := 95) (aX9_compared 38 rfl) (by decide) ?_
      exact pw_iret (aX9_compared 40 rfl) hok
    · skip
      refine pw_iconst (v := (0 : Int32)) (aX9_compared 39 rfl) rfl ?_
      exact pw_iret (aX9_compared 40 rfl) hok
  skip
  have et : tg = 96 := by
    rcases ht with ⟨-, h8⟩ | ⟨h1, h2, -⟩; { omega }; { exfalso; omega }
  subst et
  refine pw_lloadn (aX9_compared 41 rfl) rfl ?_
  refine pw_lloadn (aX9_compared 42 rfl) rfl ?_
  refine pw_ite (pw_lceq (tgt := 106) (aX9_compared 43 rfl) (aX9_compared 44 rfl) (by decide) (fun b10 => ?_) (fun b10 => ?_))
  · skip
    refine pw_iconst (v := (0 : Int32)) (aX9_compared 47 rfl) rfl ?_
    exact pw_iret (aX9_compared 48 rfl) hok
  · skip
    refine pw_iconst (v := (1 : Int32)) (aX9_compared 45 rfl) rfl ?_
    refine pw_goto (tgt := 107) (aX9_compared 46 rfl) (by decide) ?_
    exact pw_iret (aX9_compared 48 rfl) hok
set_option maxHeartbeats 4000000 in
set_option maxRecDepth 100000 in
theorem rX9_shifted {sk : xK} {base N d : Nat} (hkb : x_kb sk base) (a1 : Int32) (a2 : Int64) (a3 : Int64) (n sl : Nat) (SH : Nat → Nat × Nat) (FI : Nat → Nat → Int32) (FL : Nat → Nat → Int64) (FR : Nat → Nat → Option Nat) (hok : pk n SH FR)  : pw pj_J sk base N d none 113 0 [(0, .int (a1)), (1, .long (a2)), (3, .long (a3))] [] (n, sl, SH, FI, FL, FR) (P_ret (fX9_shifted a1 a2 a3 SH FI FL FR) (n, sl, SH, FI, FL, FR)) := by
  unfold fX9_shifted
  refine pw_lloadn (aX9_shifted 0 rfl) rfl ?_
  refine pw_lconst (v := (0 : Int64)) (aX9_shifted 1 rfl) rfl ?_
  refine pw_ite (pw_lclt (tgt := 14) (aX9_shifted 2 rfl) (aX9_shifted 3 rfl) (by decide) (fun b0 => ?_) (fun b0 => ?_))
  · skip
    refine pw_iloadn (aX9_shifted 8 rfl) rfl ?_
    refine pw_bipush (v := (38 : Int32)) (aX9_shifted 9 rfl) rfl ?_
    refine pw_ite (pw_icne (tgt := 32) (aX9_shifted 10 rfl) (by decide) (fun b1 => ?_) (fun b1 => ?_))
    · skip
      refine pw_lloadn (aX9_shifted 11 rfl) rfl ?_
      refine pw_lconst (v := (0 : Int64)) (aX9_shifted 12 rfl) rfl ?_
      refine pw_ite (pw_lcge (tgt := 32) (aX9_shifted 13 rfl) (aX9_shifted 14 rfl) (by decide) (fun b2 => ?_) (fun b2 => ?_))
      · skip
        refine pw_ldc2 (v := (-1 : Int64)) (aX9_shifted 15 rfl) uk_RX9_125 ?_
        refine pw_goto (tgt := 33) (aX9_shifted 16 rfl) (by decide) ?_
        exact pw_lret (aX9_shifted 18 rfl) hok
      · skip
        refine pw_lconst (v := (0 : Int64)) (aX9_shifted 17 rfl) rfl ?_
        exact pw_lret (aX9_shifted 18 rfl) hok
    · skip
      refine pw_lconst (v := (0 : Int64)) (aX9_shifted 17 rfl) rfl ?_
      exact pw_lret (aX9_shifted 18 rfl) hok
  · skip
    refine pw_lloadn (aX9_shifted 4 rfl) rfl ?_
    refine pw_ldc2 (v := (63 : Int64)) (aX9_shifted 5 rfl) uk_RX9_272 ?_
    refine pw_ite (pw_lcle (tgt := 34) (aX9_shifted 6 rfl) (aX9_shifted 7 rfl) (by decide) (fun b3 => ?_) (fun b3 => ?_))
    · skip
      refine pw_iloadn (aX9_shifted 8 rfl) rfl ?_
      refine pw_bipush (v := (38 : Int32)) (aX9_shifted 9 rfl) rfl ?_
      refine pw_ite (pw_icne (tgt := 32) (aX9_shifted 10 rfl) (by decide) (fun b4 => ?_) (fun b4 => ?_))
      · skip
        refine pw_lloadn (aX9_shifted 11 rfl) rfl ?_
        refine pw_lconst (v := (0 : Int64)) (aX9_shifted 12 rfl) rfl ?_
        refine pw_ite (pw_lcge (tgt := 32) (aX9_shifted 13 rfl) (aX9_shifted 14 rfl) (by decide) (fun b5 => ?_) (fun b5 => ?_))
        · skip
          refine pw_ldc2 (v := (-1 : Int64)) (aX9_shifted 15 rfl) uk_RX9_125 ?_
          refine pw_goto (tgt := 33) (aX9_shifted 16 rfl) (by decide) ?_
          exact pw_lret (aX9_shifted 18 rfl) hok
        · skip
          refine pw_lconst (v := (0 : Int64)) (aX9_shifted 17 rfl) rfl ?_
          exact pw_lret (aX9_shifted 18 rfl) hok
      · skip
        refine pw_lconst (v := (0 : Int64)) (aX9_shifted 17 rfl) rfl ?_
        exact pw_lret (aX9_shifted 18 rfl) hok
    · skip
      refine pw_lloadn (aX9_shifted 19 rfl) rfl ?_
      refine pw_l2i (aX9_shifted 20 rfl) ?_
      refine pw_istore (L2 := [(5, .int ((a3).toInt32)), (0, .int (a1)), (1, .long (a2)), (3, .long (a3))]) (aX9_shifted 21 rfl) rfl ?_
      refine pw_iloadn (aX9_shifted 22 rfl) rfl ?_
      refine pw_bipush (v := (36 : Int32)) (aX9_shifted 23 rfl) rfl ?_
      refine pw_ite (pw_icne (tgt := 51) (aX9_shifted 24 rfl) (by decide) (fun b6 => ?_) (fun b6 => ?_))
      · skip
        refine pw_lloadn (aX9_shifted 25 rfl) rfl ?_
        refine pw_iload (aX9_shifted 26 rfl) rfl ?_
        refine pw_lshl (aX9_shifted 27 rfl) ?_
        refine pw_goto (tgt := 68) (aX9_shifted 28 rfl) (by decide) ?_
        exact pw_lret (aX9_shifted 39 rfl) hok
      · skip
        refine pw_iloadn (aX9_shifted 29 rfl) rfl ?_
        refine pw_bipush (v := (37 : Int32)) (aX9_shifted 30 rfl) rfl ?_
        refine pw_ite (pw_icne (tgt := 64) (aX9_shifted 31 rfl) (by decide) (fun b7 => ?_) (fun b7 => ?_))
        · skip
          refine pw_lloadn (aX9_shifted 32 rfl) rfl ?_
          refine pw_iload (aX9_shifted 33 rfl) rfl ?_
          refine pw_lushr (aX9_shifted 34 rfl) ?_
          refine pw_goto (tgt := 68) (aX9_shifted 35 rfl) (by decide) ?_
          exact pw_lret (aX9_shifted 39 rfl) hok
        · skip
          refine pw_lloadn (aX9_shifted 36 rfl) rfl ?_
          refine pw_iload (aX9_shifted 37 rfl) rfl ?_
          refine pw_lshr (aX9_shifted 38 rfl) ?_
          exact pw_lret (aX9_shifted 39 rfl) hok
set_option maxHeartbeats 4000000 in
set_option maxRecDepth 100000 in
theorem rX9_restWithoutSign {sk : xK} {base N d : Nat} (hkb : x_kb sk base) (a1 : Int64) (a2 : Int64) (n sl : Nat) (SH : Nat → Nat × Nat) (FI : Nat → Nat → Int32) (FL : Nat → Nat → Int64) (FR : Nat → Nat → Option Nat) (hok : pk n SH FR)  : pw pj_J sk base N d none 115 0 [(0, .long (a1)), (2, .long (a2))] [] (n, sl, SH, FI, FL, FR) (P_ret (fX9_restWithoutSign a1 a2 SH FI FL FR) (n, sl, SH, FI, FL, FR)) := by
  unfold fX9_restWithoutSign
  refine pw_lloadn (aX9_restWithoutSign 0 rfl) rfl ?_
  refine pw_lconst (v := (0 : Int64)) (aX9_restWithoutSign 1 rfl) rfl ?_
  refine pw_ite (pw_lcne (tgt := 8) (aX9_restWithoutSign 2 rfl) (aX9_restWithoutSign 3 rfl) (by decide) (fun b0 => ?_) (fun b0 => ?_))
  · skip
    refine pw_lconst (v := (0 : Int64)) (aX9_restWithoutSign 4 rfl) rfl ?_
    exact pw_lret (aX9_restWithoutSign 5 rfl) hok
  · skip
    refine pw_lloadn (aX9_restWithoutSign 6 rfl) rfl ?_
    refine pw_lconst (v := (0 : Int64)) (aX9_restWithoutSign 7 rfl) rfl ?_
    refine pw_ite (pw_lcge (tgt := 30) (aX9_restWithoutSign 8 rfl) (aX9_restWithoutSign 9 rfl) (by decide) (fun b1 => ?_) (fun b1 => ?_))
    · skip
      refine pw_lloadn (aX9_restWithoutSign 10 rfl) rfl ?_
      refine pw_lloadn (aX9_restWithoutSign 11 rfl) rfl ?_
      refine pw_cf (pw_callS (As := [.long (a1), .long (a2)]) (rest := []) (aX9_restWithoutSign 12 rfl) um_RX9_274 ujX11_isBelow wc_RX9_274.2.2.2.2 (by decide) rfl rfl (fun d => rX11_isBelow hkb (a1) (a2) n sl SH FI FL FR hok) (fun v2 n2 sl2 SH2 FI2 FL2 FR2 _ hC => ?_))
      obtain ⟨e9, hC⟩ := hC; have e9 := e9.symm; subst e9; cases hC
      show pw _ _ _ _ _ _ _ 19 _ [.int (fX11_isBelow (a1) (a2) SH FI FL FR)] _ _
      refine pw_ite (pw_ifeq (tgt := 26) (aX9_restWithoutSign 13 rfl) (by decide) (fun b3 => ?_) (fun b3 => ?_))
      · skip
        refine pw_lloadn (aX9_restWithoutSign 16 rfl) rfl ?_
        refine pw_lloadn (aX9_restWithoutSign 17 rfl) rfl ?_
        refine pw_lsub (aX9_restWithoutSign 18 rfl) ?_
        exact pw_lret (aX9_restWithoutSign 19 rfl) hok
      · skip
        refine pw_lloadn (aX9_restWithoutSign 14 rfl) rfl ?_
        refine pw_goto (tgt := 29) (aX9_restWithoutSign 15 rfl) (by decide) ?_
        exact pw_lret (aX9_restWithoutSign 19 rfl) hok
    · skip
      refine pw_lloadn (aX9_restWithoutSign 20 rfl) rfl ?_
      refine pw_lconst (v := (0 : Int64)) (aX9_restWithoutSign 21 rfl) rfl ?_
      refine pw_ite (pw_lclt (tgt := 40) (aX9_restWithoutSign 22 rfl) (aX9_restWithoutSign 23 rfl) (by decide) (fun b4 => ?_) (fun b4 => ?_))
      · skip
        refine pw_lloadn (aX9_restWithoutSign 28 rfl) rfl ?_
        refine pw_lloadn (aX9_restWithoutSign 29 rfl) rfl ?_
        refine pw_iconst (v := (1 : Int32)) (aX9_restWithoutSign 30 rfl) rfl ?_
        refine pw_lushr (aX9_restWithoutSign 31 rfl) ?_
        refine pw_lloadn (aX9_restWithoutSign 32 rfl) rfl ?_
        refine pw_sd (pw_ldiv (aX9_restWithoutSign 33 rfl) (fun _ => ?_))
        refine pw_iconst (v := (1 : Int32)) (aX9_restWithoutSign 34 rfl) rfl ?_
        refine pw_lshl (aX9_restWithoutSign 35 rfl) ?_
        refine pw_lloadn (aX9_restWithoutSign 36 rfl) rfl ?_
        refine pw_lmul (aX9_restWithoutSign 37 rfl) ?_
        refine pw_lsub (aX9_restWithoutSign 38 rfl) ?_
        refine pw_lstore (L2 := [(4, .long ((a1) - ((((((a1).toUInt64 >>> (((1 : Int32)).toInt64.toUInt64 &&& Int64.toUInt64 63)).toInt64) / (a2)) <<< (((1 : Int32)).toInt64 &&& 63)) * (a2)))), (0, .long (a1)), (2, .long (a2))]) (aX9_restWithoutSign 39 rfl) rfl ?_
        refine pw_lload (aX9_restWithoutSign 40 rfl) rfl ?_
        refine pw_lloadn (aX9_restWithoutSign 41 rfl) rfl ?_
        refine pw_cf (pw_callS (As := [.long ((a1) - ((((((a1).toUInt64 >>> (((1 : Int32)).toInt64.toUInt64 &&& Int64.toUInt64 63)).toInt64) / (a2)) <<< (((1 : Int32)).toInt64 &&& 63)) * (a2))), .long (a2)]) (rest := []) (aX9_restWithoutSign 42 rfl) um_RX9_274 ujX11_isBelow wc_RX9_274.2.2.2.2 (by decide) rfl rfl (fun d => rX11_isBelow hkb ((a1) - ((((((a1).toUInt64 >>> (((1 : Int32)).toInt64.toUInt64 &&& Int64.toUInt64 63)).toInt64) / (a2)) <<< (((1 : Int32)).toInt64 &&& 63)) * (a2))) (a2) n sl SH FI FL FR hok) (fun v5 n5 sl5 SH5 FI5 FL5 FR5 _ hC => ?_))
        obtain ⟨e9, hC⟩ := hC; have e9 := e9.symm; subst e9; cases hC
        show pw _ _ _ _ _ _ _ 59 _ [.int (fX11_isBelow ((a1) - ((((((a1).toUInt64 >>> (((1 : Int32)).toInt64.toUInt64 &&& Int64.toUInt64 63)).toInt64) / (a2)) <<< (((1 : Int32)).toInt64 &&& 63)) * (a2))) (a2) SH FI FL FR)] _ _
        refine pw_ite (pw_ifeq (tgt := 67) (aX9_restWithoutSign 43 rfl) (by decide) (fun b6 => ?_) (fun b6 => ?_))
        · skip
          refine pw_lload (aX9_restWithoutSign 46 rfl) rfl ?_
          refine pw_lloadn (aX9_restWithoutSign 47 rfl) rfl ?_
          refine pw_lsub (aX9_restWithoutSign 48 rfl) ?_
          exact pw_lret (aX9_restWithoutSign 49 rfl) hok
        · skip
          refine pw_lload (aX9_restWithoutSign 44 rfl) rfl ?_
          refine pw_goto (tgt := 71) (aX9_restWithoutSign 45 rfl) (by decide) ?_
          exact pw_lret (aX9_restWithoutSign 49 rfl) hok
      · skip
        refine pw_lloadn (aX9_restWithoutSign 24 rfl) rfl ?_
        refine pw_lloadn (aX9_restWithoutSign 25 rfl) rfl ?_
        refine pw_sd (pw_lrem (aX9_restWithoutSign 26 rfl) (fun _ => ?_))
        exact pw_lret (aX9_restWithoutSign 27 rfl) hok
set_option maxHeartbeats 4000000 in
set_option maxRecDepth 100000 in
theorem rX9_joined {sk : xK} {base N d : Nat} (hkb : x_kb sk base) (a1 : Int32) (a2 : Int64) (a3 : Int64) (n sl : Nat) (SH : Nat → Nat × Nat) (FI : Nat → Nat → Int32) (FL : Nat → Nat → Int64) (FR : Nat → Nat → Option Nat) (hok : pk n SH FR)  : pw pj_J sk base N d none 112 0 [(0, .int (a1)), (1, .long (a2)), (3, .long (a3))] [] (n, sl, SH, FI, FL, FR) (P_ret (fX9_joined a1 a2 a3 SH FI FL FR) (n, sl, SH, FI, FL, FR)) := by
  unfold fX9_joined
  refine pw_iloadn (aX9_joined 0 rfl) rfl ?_
  refine pw_tsw aX9_joined_1 (fun tg ht => ?_)
  refine pw_ite (pw_case ((a1).toInt = 26) (fun b1 => ?_) (fun b1 => ?_))
  · have et : tg = 72 := by
      rcases ht with ⟨h8, -⟩ | ⟨-, -, off, ho, ht⟩; { exact absurd h8 (by omega) }; { rw [b1] at ho; have e9 : off = (71 : Int) := (Option.some.inj (show some (71 : Int) = some off from ho)).symm; omega }
    subst et
    refine pw_lloadn (aX9_joined 1 rfl) rfl ?_
    refine pw_lloadn (aX9_joined 2 rfl) rfl ?_
    refine pw_land (aX9_joined 3 rfl) ?_
    exact pw_lret (aX9_joined 4 rfl) hok
  skip
  refine pw_ite (pw_case ((a1).toInt = 27) (fun b2 => ?_) (fun b2 => ?_))
  · have et : tg = 76 := by
      rcases ht with ⟨h8, -⟩ | ⟨-, -, off, ho, ht⟩; { exact absurd h8 (by omega) }; { rw [b2] at ho; have e9 : off = (75 : Int) := (Option.some.inj (show some (75 : Int) = some off from ho)).symm; omega }
    subst et
    refine pw_lloadn (aX9_joined 5 rfl) rfl ?_
    refine pw_lconst (v := (0 : Int64)) (aX9_joined 6 rfl) rfl ?_
    refine pw_ite (pw_lcne (tgt := 86) (aX9_joined 7 rfl) (aX9_joined 8 rfl) (by decide) (fun b2 => ?_) (fun b2 => ?_))
    · skip
      refine pw_lconst (v := (0 : Int64)) (aX9_joined 9 rfl) rfl ?_
      refine pw_goto (tgt := 89) (aX9_joined 10 rfl) (by decide) ?_
      exact pw_lret (aX9_joined 14 rfl) hok
    · skip
      refine pw_lloadn (aX9_joined 11 rfl) rfl ?_
      refine pw_lloadn (aX9_joined 12 rfl) rfl ?_
      refine pw_sd (pw_ldiv (aX9_joined 13 rfl) (fun _ => ?_))
      exact pw_lret (aX9_joined 14 rfl) hok
  skip
  refine pw_ite (pw_case ((a1).toInt = 28) (fun b4 => ?_) (fun b4 => ?_))
  · have et : tg = 90 := by
      rcases ht with ⟨h8, -⟩ | ⟨-, -, off, ho, ht⟩; { exact absurd h8 (by omega) }; { rw [b4] at ho; have e9 : off = (89 : Int) := (Option.some.inj (show some (89 : Int) = some off from ho)).symm; omega }
    subst et
    refine pw_lloadn (aX9_joined 15 rfl) rfl ?_
    refine pw_lloadn (aX9_joined 16 rfl) rfl ?_
    refine pw_lsub (aX9_joined 17 rfl) ?_
    exact pw_lret (aX9_joined 18 rfl) hok
  skip
  refine pw_ite (pw_case ((a1).toInt = 29) (fun b5 => ?_) (fun b5 => ?_))
  · have et : tg = 94 := by
      rcases ht with ⟨h8, -⟩ | ⟨-, -, off, ho, ht⟩; { exact absurd h8 (by omega) }; { rw [b5] at ho; have e9 : off = (93 : Int) := (Option.some.inj (show some (93 : Int) = some off from ho)).symm; omega }
    subst et
    refine pw_lloadn (aX9_joined 19 rfl) rfl ?_
    refine pw_lloadn (aX9_joined 20 rfl) rfl ?_
    refine pw_cf (pw_callS (As := [.long (a2), .long (a3)]) (rest := []) (aX9_joined 21 rfl) um_RX9_261 ujX9_restWithoutSign wc_RX9_261.2.2.2.2 (by decide) rfl rfl (fun d => rX9_restWithoutSign hkb (a2) (a3) n sl SH FI FL FR hok) (fun v5 n5 sl5 SH5 FI5 FL5 FR5 _ hC => ?_))
    obtain ⟨rfl, hC⟩ := hC; cases hC
    show pw _ _ _ _ _ _ _ 99 _ [.long (fX9_restWithoutSign (a2) (a3) SH FI FL FR)] _ _
    exact pw_lret (aX9_joined 22 rfl) hok
  skip
  refine pw_ite (pw_case ((a1).toInt = 30) (fun b7 => ?_) (fun b7 => ?_))
  · have et : tg = 100 := by
      rcases ht with ⟨h8, -⟩ | ⟨-, -, off, ho, ht⟩; { exact absurd h8 (by omega) }; { rw [b7] at ho; have e9 : off = (99 : Int) := (Option.some.inj (show some (99 : Int) = some off from ho)).symm; omega }
    subst et
    refine pw_lloadn (aX9_joined 23 rfl) rfl ?_
    refine pw_lloadn (aX9_joined 24 rfl) rfl ?_
    refine pw_lmul (aX9_joined 25 rfl) ?_
    exact pw_lret (aX9_joined 26 rfl) hok
  skip
  refine pw_ite (pw_case ((a1).toInt = 31 ∨ (a1).toInt = 32 ∨ (a1).toInt = 35) (fun b8 => ?_) (fun b8 => ?_))
  · have et : tg = 123 := by
      rcases b8 with h9 | h9 | h9
      · rcases ht with ⟨h8, -⟩ | ⟨-, -, off, ho, ht⟩; { exact absurd h8 (by omega) }; { rw [h9] at ho; have e9 : off = (122 : Int) := (Option.some.inj (show some (122 : Int) = some off from ho)).symm; omega }
      · rcases ht with ⟨h8, -⟩ | ⟨-, -, off, ho, ht⟩; { exact absurd h8 (by omega) }; { rw [h9] at ho; have e9 : off = (122 : Int) := (Option.some.inj (show some (122 : Int) = some off from ho)).symm; omega }
      · rcases ht with ⟨h8, -⟩ | ⟨-, -, off, ho, ht⟩; { exact absurd h8 (by omega) }; { rw [h9] at ho; have e9 : off = (122 : Int) := (Option.some.inj (show some (122 : Int) = some off from ho)).symm; omega }
    subst et
    refine pw_iloadn (aX9_joined 44 rfl) rfl ?_
    refine pw_lloadn (aX9_joined 45 rfl) rfl ?_
    refine pw_lloadn (aX9_joined 46 rfl) rfl ?_
    refine pw_cf (pw_callS (As := [.int (a1), .long (a2), .long (a3)]) (rest := []) (aX9_joined 47 rfl) um_RX9_268 ujX9_compared wc_RX9_268.2.2.2.2 (by decide) rfl rfl (fun d => rX9_compared hkb (a1) (a2) (a3) n sl SH FI FL FR hok) (fun v8 n8 sl8 SH8 FI8 FL8 FR8 _ hC => ?_))
    obtain ⟨rfl, hC⟩ := hC; cases hC
    show pw _ _ _ _ _ _ _ 129 _ [.int (fX9_compared (a1) (a2) (a3) SH FI FL FR)] _ _
    refine pw_ite (pw_ifeq (tgt := 136) (aX9_joined 48 rfl) (by decide) (fun b9 => ?_) (fun b9 => ?_))
    · skip
      refine pw_lconst (v := (0 : Int64)) (aX9_joined 51 rfl) rfl ?_
      exact pw_lret (aX9_joined 52 rfl) hok
    · skip
      refine pw_lconst (v := (1 : Int64)) (aX9_joined 49 rfl) rfl ?_
      refine pw_goto (tgt := 137) (aX9_joined 50 rfl) (by decide) ?_
      exact pw_lret (aX9_joined 52 rfl) hok
  skip
  refine pw_ite (pw_case ((a1).toInt = 33) (fun b11 => ?_) (fun b11 => ?_))
  · have et : tg = 104 := by
      rcases ht with ⟨h8, -⟩ | ⟨-, -, off, ho, ht⟩; { exact absurd h8 (by omega) }; { rw [b11] at ho; have e9 : off = (103 : Int) := (Option.some.inj (show some (103 : Int) = some off from ho)).symm; omega }
    subst et
    refine pw_lloadn (aX9_joined 27 rfl) rfl ?_
    refine pw_lloadn (aX9_joined 28 rfl) rfl ?_
    refine pw_lor (aX9_joined 29 rfl) ?_
    exact pw_lret (aX9_joined 30 rfl) hok
  skip
  refine pw_ite (pw_case ((a1).toInt = 34) (fun b12 => ?_) (fun b12 => ?_))
  · have et : tg = 108 := by
      rcases ht with ⟨h8, -⟩ | ⟨-, -, off, ho, ht⟩; { exact absurd h8 (by omega) }; { rw [b12] at ho; have e9 : off = (107 : Int) := (Option.some.inj (show some (107 : Int) = some off from ho)).symm; omega }
    subst et
    refine pw_lloadn (aX9_joined 31 rfl) rfl ?_
    refine pw_lloadn (aX9_joined 32 rfl) rfl ?_
    refine pw_ladd (aX9_joined 33 rfl) ?_
    exact pw_lret (aX9_joined 34 rfl) hok
  skip
  refine pw_ite (pw_case ((a1).toInt = 36 ∨ (a1).toInt = 37 ∨ (a1).toInt = 38) (fun b13 => ?_) (fun b13 => ?_))
  · have et : tg = 112 := by
      rcases b13 with h9 | h9 | h9
      · rcases ht with ⟨h8, -⟩ | ⟨-, -, off, ho, ht⟩; { exact absurd h8 (by omega) }; { rw [h9] at ho; have e9 : off = (111 : Int) := (Option.some.inj (show some (111 : Int) = some off from ho)).symm; omega }
      · rcases ht with ⟨h8, -⟩ | ⟨-, -, off, ho, ht⟩; { exact absurd h8 (by omega) }; { rw [h9] at ho; have e9 : off = (111 : Int) := (Option.some.inj (show some (111 : Int) = some off from ho)).symm; omega }
      · rcases ht with ⟨h8, -⟩ | ⟨-, -, off, ho, ht⟩; { exact absurd h8 (by omega) }; { rw [h9] at ho; have e9 : off = (111 : Int) := (Option.some.inj (show some (111 : Int) = some off from ho)).symm; omega }
    subst et
    refine pw_iloadn (aX9_joined 35 rfl) rfl ?_
    refine pw_lloadn (aX9_joined 36 rfl) rfl ?_
    refine pw_lloadn (aX9_joined 37 rfl) rfl ?_
    refine pw_cf (pw_callS (As := [.int (a1), .long (a2), .long (a3)]) (rest := []) (aX9_joined 38 rfl) um_RX9_265 ujX9_shifted wc_RX9_265.2.2.2.2 (by decide) rfl rfl (fun d => rX9_shifted hkb (a1) (a2) (a3) n sl SH FI FL FR hok) (fun v13 n13 sl13 SH13 FI13 FL13 FR13 _ hC => ?_))
    obtain ⟨rfl, hC⟩ := hC; cases hC
    show pw _ _ _ _ _ _ _ 118 _ [.long (fX9_shifted (a1) (a2) (a3) SH FI FL FR)] _ _
    exact pw_lret (aX9_joined 39 rfl) hok
  skip
  refine pw_ite (pw_case ((a1).toInt = 39) (fun b15 => ?_) (fun b15 => ?_))
  · have et : tg = 119 := by
      rcases ht with ⟨h8, -⟩ | ⟨-, -, off, ho, ht⟩; { exact absurd h8 (by omega) }; { rw [b15] at ho; have e9 : off = (118 : Int) := (Option.some.inj (show some (118 : Int) = some off from ho)).symm; omega }
    subst et
    refine pw_lloadn (aX9_joined 40 rfl) rfl ?_
    refine pw_lloadn (aX9_joined 41 rfl) rfl ?_
    refine pw_lxor (aX9_joined 42 rfl) ?_
    exact pw_lret (aX9_joined 43 rfl) hok
  skip
  have et : tg = 123 := by
    rcases ht with ⟨-, h8⟩ | ⟨h1, h2, -⟩; { omega }; { exfalso; omega }
  subst et
  refine pw_iloadn (aX9_joined 44 rfl) rfl ?_
  refine pw_lloadn (aX9_joined 45 rfl) rfl ?_
  refine pw_lloadn (aX9_joined 46 rfl) rfl ?_
  refine pw_cf (pw_callS (As := [.int (a1), .long (a2), .long (a3)]) (rest := []) (aX9_joined 47 rfl) um_RX9_268 ujX9_compared wc_RX9_268.2.2.2.2 (by decide) rfl rfl (fun d => rX9_compared hkb (a1) (a2) (a3) n sl SH FI FL FR hok) (fun v15 n15 sl15 SH15 FI15 FL15 FR15 _ hC => ?_))
  obtain ⟨rfl, hC⟩ := hC; cases hC
  show pw _ _ _ _ _ _ _ 129 _ [.int (fX9_compared (a1) (a2) (a3) SH FI FL FR)] _ _
  refine pw_ite (pw_ifeq (tgt := 136) (aX9_joined 48 rfl) (by decide) (fun b16 => ?_) (fun b16 => ?_))
  · skip
    refine pw_lconst (v := (0 : Int64)) (aX9_joined 51 rfl) rfl ?_
    exact pw_lret (aX9_joined 52 rfl) hok
  · skip
    refine pw_lconst (v := (1 : Int64)) (aX9_joined 49 rfl) rfl ?_
    refine pw_goto (tgt := 137) (aX9_joined 50 rfl) (by decide) ?_
    exact pw_lret (aX9_joined 52 rfl) hok
set_option maxHeartbeats 4000000 in
set_option maxRecDepth 100000 in
theorem rX9_resetI {sk : xK} {base N d : Nat} (hkb : x_kb sk base) (a1 : Int32) (a2 : Int32) (n sl : Nat) (SH : Nat → Nat × Nat) (FI : Nat → Nat → Int32) (FL : Nat → Nat → Int64) (FR : Nat → Nat → Option Nat) (hok : pk n SH FR)  : pw pj_V sk base N d none 86 0 [(0, .ref (base + 49)), (1, .int (a1)), (2, .int (a2))] [] (n, sl, SH, FI, FL, FR) (RX9_resetI a1 a2 n sl SH FI FL FR) := by
  unfold RX9_resetI
  refine pw_aloadn (aX9_reset 0 rfl) rfl ?_
  refine pw_iloadn (aX9_reset 1 rfl) rfl ?_
  refine pw_putri (aX9_reset 2 rfl) uf_RX9_53 (fun _ _ _ => rfl) (fun t1 => ?_)
  refine pw_aloadn (aX9_reset 3 rfl) rfl ?_
  refine pw_iloadn (aX9_reset 4 rfl) rfl ?_
  refine pw_putri (aX9_reset 5 rfl) uf_RX9_56 (fun _ _ _ => rfl) (fun t2 => ?_)
  refine pw_aloadn (aX9_reset 6 rfl) rfl ?_
  refine pw_iconst (v := (0 : Int32)) (aX9_reset 7 rfl) rfl ?_
  refine pw_putri (aX9_reset 8 rfl) uf_RX9_59 (fun _ _ _ => rfl) (fun t3 => ?_)
  refine pw_aloadn (aX9_reset 9 rfl) rfl ?_
  refine pw_iconst (v := (0 : Int32)) (aX9_reset 10 rfl) rfl ?_
  refine pw_putri (aX9_reset 11 rfl) uf_RX9_62 (fun _ _ _ => rfl) (fun t4 => ?_)
  refine pw_aloadn (aX9_reset 12 rfl) rfl ?_
  refine pw_getr (v := .ref (base + 51)) (aX9_reset 13 rfl) uf_RX9_18 un_RX9_18 (congrArg (fun r => va_rf (h_rf base r)) (q49_3 (hok).2.1)) ?_
  refine pw_iconst (v := (0 : Int32)) (aX9_reset 14 rfl) rfl ?_
  refine pw_lconst (v := (0 : Int64)) (aX9_reset 15 rfl) rfl ?_
  refine pw_callV (Bs := [.int ((0 : Int32)), .long ((0 : Int64))]) (rest := []) (aX9_reset 16 rfl) um_RX9_65 ujX5_become wc_RX9_65.2.2.2.2 (by decide) (by decide) rfl rfl (fun d => rX5_become hkb 51 ((0 : Int32)) ((0 : Int64)) n sl SH (h_up (h_up (h_up (h_up FI 49 6 (a1)) 49 7 (a2)) 49 8 ((0 : Int32))) 49 5 ((0 : Int32))) FL FR hok) (fun v4 n4 sl4 SH4 FI4 FL4 FR4 hok4 _ => ?_)
  show pw _ _ _ _ _ _ _ 29 _ [] _ _
  refine pw_aloadn (aX9_reset 17 rfl) rfl ?_
  refine pw_getr (v := .ref (base + 52)) (aX9_reset 18 rfl) uf_RX9_25 un_RX9_25 (congrArg (fun r => va_rf (h_rf base r)) (q49_4 (hok4).2.1)) ?_
  refine pw_callV (Bs := []) (rest := []) (aX9_reset 19 rfl) um_RX9_69 ujX8_clear wc_RX9_69.2.2.2.2 (by decide) (by decide) rfl rfl (fun d => rX8_clear hkb 52 n4 sl4 SH4 FI4 FL4 FR4 hok4) (fun v5 n5 sl5 SH5 FI5 FL5 FR5 hok5 _ => ?_)
  show pw _ _ _ _ _ _ _ 36 _ [] _ _
  exact pw_vret (aX9_reset 20 rfl) hok5
set_option maxHeartbeats 4000000 in
set_option maxRecDepth 100000 in
theorem rX9_readNumberI_14 {sk : xK} {base N d : Nat}  (hkb : x_kb sk base) (a1 : Option Nat) (a2 : Int32) (a3 : Int32) (s0i : Int32)  (n sl : Nat) (SH : Nat → Nat × Nat) (FI : Nat → Nat → Int32) (FL : Nat → Nat → Int64) (FR : Nat → Nat → Option Nat) (hok : pk n SH FR)   : pw pj_I sk base N d none 91 14 [(0, .ref (base + 49)), (1, va_rf (h_rf base (a1))), (2, .int (a2)), (3, .int (a3))] [.int (s0i)] (n, sl, SH, FI, FL, FR) (RX9_readNumberI_14  a1 a2 a3 s0i n sl SH FI FL FR) := by
  unfold RX9_readNumberI_14
  refine pw_istore (L2 := [(4, .int (s0i)), (0, .ref (base + 49)), (1, va_rf (h_rf base (a1))), (2, .int (a2)), (3, .int (a3))]) (aX9_readNumber 8 rfl) (by first | rfl | (simp [x_s1, x_s2, va_cat, va_ci, va_cl, va_cr, va_cn]; done) | (simp [x_s1, x_s2, va_cat, va_ci, va_cl, va_cr, va_cn]; decide)) ?_
  refine pw_iloadn (aX9_readNumber 9 rfl) rfl ?_
  refine pw_aloadn (aX9_readNumber 10 rfl) rfl ?_
  refine pw_getr (v := .int (FI 49 10)) (aX9_readNumber 11 rfl) uf_RX9_78 un_RX9_78 rfl ?_
  refine pw_isub (aX9_readNumber 12 rfl) ?_
  refine pw_iload (aX9_readNumber 13 rfl) rfl ?_
  refine pw_icge (tgt := 29) (aX9_readNumber 14 rfl) (by decide) (fun b0 => ?_) (fun b0 => ?_)
  · skip
    refine pw_iconst (v := (1 : Int32)) (aX9_readNumber 15 rfl) rfl ?_
    exact pw_iret (aX9_readNumber 16 rfl) hok
  · skip
    refine pw_aloadn (aX9_readNumber 17 rfl) rfl ?_
    refine pw_aloadn (aX9_readNumber 18 rfl) rfl ?_
    refine pw_aloadn (aX9_readNumber 19 rfl) rfl ?_
    refine pw_getr (v := .int (FI 49 10)) (aX9_readNumber 20 rfl) uf_RX9_78 un_RX9_78 rfl ?_
    refine pw_iload (aX9_readNumber 21 rfl) rfl ?_
    refine pw_callS (As := [va_rf (h_rf base (a1)), .int (FI 49 10), .int (s0i)]) (L2 := [(0, va_rf (h_rf base (a1))), (1, .int (FI 49 10)), (2, .int (s0i))]) (rest := [.ref (base + 49)]) (aX9_readNumber 22 rfl) um_RX9_121 ujX11_number wc_RX9_121.2.2.2.2 (by decide) rfl (by first | rfl | simp [lv_args, va_cat, va_ci, va_cl, va_cr, va_cn]) (fun d => rX11_number hkb (a1) (FI 49 10) (s0i) n sl SH FI FL FR hok) (fun v1 n1 sl1 SH1 FI1 FL1 FR1 hok1 _ => ?_)
    show pw _ _ _ _ _ _ _ 40 _ [.long (v1), .ref (base + 49)] _ _
    refine pw_putrl (aX9_readNumber 23 rfl) uf_RX9_96 (fun _ _ _ => rfl) (fun t3 => ?_)
    refine pw_iloadn (aX9_readNumber 24 rfl) rfl ?_
    refine pw_bipush (v := (10 : Int32)) (aX9_readNumber 25 rfl) rfl ?_
    refine pw_icle (tgt := 73) (aX9_readNumber 26 rfl) (by decide) (fun b3 => ?_) (fun b3 => ?_)
    · skip
      refine pw_bipush (v := (64 : Int32)) (aX9_readNumber 27 rfl) rfl ?_
      refine pw_bipush (v := (8 : Int32)) (aX9_readNumber 28 rfl) rfl ?_
      refine pw_iload (aX9_readNumber 29 rfl) rfl ?_
      refine pw_imul (aX9_readNumber 30 rfl) ?_
      refine pw_isub (aX9_readNumber 31 rfl) ?_
      refine pw_istore (L2 := [(5, .int (((64 : Int32)) - (((8 : Int32)) * (s0i)))), (4, .int (s0i)), (0, .ref (base + 49)), (1, va_rf (h_rf base (a1))), (2, .int (a2)), (3, .int (a3))]) (aX9_readNumber 32 rfl) (by first | rfl | (simp [x_s1, x_s2, va_cat, va_ci, va_cl, va_cr, va_cn]; done) | (simp [x_s1, x_s2, va_cat, va_ci, va_cl, va_cr, va_cn]; decide)) ?_
      refine pw_aloadn (aX9_readNumber 33 rfl) rfl ?_
      refine pw_aloadn (aX9_readNumber 34 rfl) rfl ?_
      refine pw_getr (v := .long (v1)) (aX9_readNumber 35 rfl) uf_RX9_96 un_RX9_96 rfl ?_
      refine pw_iload (aX9_readNumber 36 rfl) rfl ?_
      refine pw_lshl (aX9_readNumber 37 rfl) ?_
      refine pw_iload (aX9_readNumber 38 rfl) rfl ?_
      refine pw_lshr (aX9_readNumber 39 rfl) ?_
      refine pw_putrl (aX9_readNumber 40 rfl) uf_RX9_96 (fun _ _ _ => rfl) (fun t5 => ?_)
      refine pw_aloadn (aX9_readNumber 41 rfl) rfl ?_
      refine pw_dup (aX9_readNumber 42 rfl) ?_
      refine pw_getr (v := .int (FI1 49 10)) (aX9_readNumber 43 rfl) uf_RX9_78 un_RX9_78 rfl ?_
      refine pw_iload (aX9_readNumber 44 rfl) rfl ?_
      refine pw_iadd (aX9_readNumber 45 rfl) ?_
      refine pw_putri (aX9_readNumber 46 rfl) uf_RX9_78 (fun _ _ _ => rfl) (fun t6 => ?_)
      refine pw_iconst (v := (0 : Int32)) (aX9_readNumber 47 rfl) rfl ?_
      exact pw_iret (aX9_readNumber 48 rfl) hok1
    · skip
      refine pw_aloadn (aX9_readNumber 41 rfl) rfl ?_
      refine pw_dup (aX9_readNumber 42 rfl) ?_
      refine pw_getr (v := .int (FI1 49 10)) (aX9_readNumber 43 rfl) uf_RX9_78 un_RX9_78 rfl ?_
      refine pw_iload (aX9_readNumber 44 rfl) rfl ?_
      refine pw_iadd (aX9_readNumber 45 rfl) ?_
      refine pw_putri (aX9_readNumber 46 rfl) uf_RX9_78 (fun _ _ _ => rfl) (fun t7 => ?_)
      refine pw_iconst (v := (0 : Int32)) (aX9_readNumber 47 rfl) rfl ?_
      exact pw_iret (aX9_readNumber 48 rfl) hok1
set_option maxHeartbeats 4000000 in
set_option maxRecDepth 100000 in
theorem rX9_readNumberI {sk : xK} {base N d : Nat} (hkb : x_kb sk base) (a1 : Option Nat) (a2 : Int32) (a3 : Int32) (n sl : Nat) (SH : Nat → Nat × Nat) (FI : Nat → Nat → Int32) (FL : Nat → Nat → Int64) (FR : Nat → Nat → Option Nat) (hok : pk n SH FR)  : pw pj_I sk base N d none 91 0 [(0, .ref (base + 49)), (1, va_rf (h_rf base (a1))), (2, .int (a2)), (3, .int (a3))] [] (n, sl, SH, FI, FL, FR) (RX9_readNumberI a1 a2 a3 n sl SH FI FL FR) := by
  unfold RX9_readNumberI
  refine pw_iloadn (aX9_readNumber 0 rfl) rfl ?_
  refine pw_bipush (v := (10 : Int32)) (aX9_readNumber 1 rfl) rfl ?_
  refine pw_icle (tgt := 13) (aX9_readNumber 2 rfl) (by decide) (fun b0 => ?_) (fun b0 => ?_)
  · skip
    refine pw_iloadn (aX9_readNumber 3 rfl) rfl ?_
    refine pw_bipush (v := (10 : Int32)) (aX9_readNumber 4 rfl) rfl ?_
    refine pw_isub (aX9_readNumber 5 rfl) ?_
    refine pw_goto (tgt := 14) (aX9_readNumber 6 rfl) (by decide) ?_
    exact pw_Li (L2 := [(0, .ref (base + 49)), (1, va_rf (h_rf base (a1))), (2, .int (a2)), (3, .int (a3))]) [0, 1, 2, 3] (rX9_readNumberI_14 hkb a1 a2 a3 ((a3) - ((10 : Int32))) n sl SH FI FL FR hok  ) ⟨rfl, rfl, rfl, rfl, trivial⟩
  · skip
    refine pw_iloadn (aX9_readNumber 7 rfl) rfl ?_
    exact pw_Li (L2 := [(0, .ref (base + 49)), (1, va_rf (h_rf base (a1))), (2, .int (a2)), (3, .int (a3))]) [0, 1, 2, 3] (rX9_readNumberI_14 hkb a1 a2 a3 (a3) n sl SH FI FL FR hok  ) ⟨rfl, rfl, rfl, rfl, trivial⟩
set_option maxHeartbeats 4000000 in
set_option maxRecDepth 100000 in
theorem bX9_readLebI_8 {sk : xK} {base N d : Nat} {K8 : Int32 → Nat → Nat → (Nat → Nat × Nat) → (Nat → Nat → Int32) → (Nat → Nat → Int64) → (Nat → Nat → Option Nat) → Int32 → hS → Prop} (hkb : x_kb sk base) (a1 : Option Nat) (a2 : Int32) (a3 : Int32) (l4i : Int32) (l5i : Int32) (n sl : Nat) (SH : Nat → Nat × Nat) (FI : Nat → Nat → Int32) (FL : Nat → Nat → Int64) (FR : Nat → Nat → Option Nat) (hok : pk n SH FR)  (hK8 : ∀ (l4i : Int32) (l5i : Int32) (n sl : Nat) (SH : Nat → Nat × Nat) (FI : Nat → Nat → Int32) (FL : Nat → Nat → Int64) (FR : Nat → Nat → Option Nat), pk n SH FR → pw pj_I sk base N d none 92 8 [(0, .ref (base + 49)), (1, va_rf (h_rf base (a1))), (2, .int (a2)), (3, .int (a3)), (4, .int (l4i)), (5, .int (l5i))] [] (n, sl, SH, FI, FL, FR) (K8 l4i n sl SH FI FL FR)) : pw pj_I sk base (N + 1) d none 92 8 [(0, .ref (base + 49)), (1, va_rf (h_rf base (a1))), (2, .int (a2)), (3, .int (a3)), (4, .int (l4i)), (5, .int (l5i))] [] (n, sl, SH, FI, FL, FR) (BX9_readLebI_8 K8 a1 a2 a3 l4i n sl SH FI FL FR) := by
  unfold BX9_readLebI_8
  refine pd_iload (aX9_readLeb 5 rfl) rfl ?_
  refine pw_bipush (v := (10 : Int32)) (aX9_readLeb 6 rfl) rfl ?_
  refine pw_icge (tgt := 136) (aX9_readLeb 7 rfl) (by decide) (fun b0 => ?_) (fun b0 => ?_)
  · skip
    refine pw_aloadn (aX9_readLeb 8 rfl) rfl ?_
    refine pw_getr (v := .int (FI 49 10)) (aX9_readLeb 9 rfl) uf_RX9_78 un_RX9_78 rfl ?_
    refine pw_iflt (tgt := 39) (aX9_readLeb 10 rfl) (by decide) (fun b1 => ?_) (fun b1 => ?_)
    · skip
      refine pw_iconst (v := (1 : Int32)) (aX9_readLeb 20 rfl) rfl ?_
      exact pw_iret (aX9_readLeb 21 rfl) hok
    · skip
      refine pw_aloadn (aX9_readLeb 11 rfl) rfl ?_
      refine pw_getr (v := .int (FI 49 10)) (aX9_readLeb 12 rfl) uf_RX9_78 un_RX9_78 rfl ?_
      refine pw_iloadn (aX9_readLeb 13 rfl) rfl ?_
      refine pw_icge (tgt := 39) (aX9_readLeb 14 rfl) (by decide) (fun b2 => ?_) (fun b2 => ?_)
      · skip
        refine pw_aloadn (aX9_readLeb 15 rfl) rfl ?_
        refine pw_getr (v := .int (FI 49 10)) (aX9_readLeb 16 rfl) uf_RX9_78 un_RX9_78 rfl ?_
        refine pw_aloadn (aX9_readLeb 17 rfl) rfl ?_
        refine pw_alen hkb (o := a1) (aX9_readLeb 18 rfl) (fun c4 hc4 _ => ?_)
        refine pw_iclt (tgt := 41) (aX9_readLeb 19 rfl) (by decide) (fun b4 => ?_) (fun b4 => ?_)
        · skip
          refine pw_aloadn (aX9_readLeb 22 rfl) rfl ?_
          refine pw_aloadn (aX9_readLeb 23 rfl) rfl ?_
          refine pw_getr (v := .int (FI 49 10)) (aX9_readLeb 24 rfl) uf_RX9_78 un_RX9_78 rfl ?_
          refine pw_iald (ix := (FI 49 10).toInt.toNat) (o := a1) (aX9_readLeb 25 rfl) rfl (fun c6 hc6 _ gc6 => ?_)
          refine pw_istore (L2 := [(5, .int (FI c6 (FI 49 10).toInt.toNat)), (0, .ref (base + 49)), (1, va_rf (h_rf base (a1))), (2, .int (a2)), (3, .int (a3)), (4, .int (l4i))]) (aX9_readLeb 26 rfl) (by first | rfl | (simp [x_s1, x_s2, va_cat, va_ci, va_cl, va_cr, va_cn]; done) | (simp [x_s1, x_s2, va_cat, va_ci, va_cl, va_cr, va_cn]; decide)) ?_
          refine pw_aloadn (aX9_readLeb 27 rfl) rfl ?_
          refine pw_dup (aX9_readLeb 28 rfl) ?_
          refine pw_getr (v := .int (FI 49 10)) (aX9_readLeb 29 rfl) uf_RX9_78 un_RX9_78 rfl ?_
          refine pw_iconst (v := (1 : Int32)) (aX9_readLeb 30 rfl) rfl ?_
          refine pw_iadd (aX9_readLeb 31 rfl) ?_
          refine pw_putri (aX9_readLeb 32 rfl) uf_RX9_78 (fun _ _ _ => rfl) (fun t7 => ?_)
          refine pw_aloadn (aX9_readLeb 33 rfl) rfl ?_
          refine pw_dup (aX9_readLeb 34 rfl) ?_
          refine pw_getr (v := .long (FL 49 14)) (aX9_readLeb 35 rfl) uf_RX9_115 un_RX9_115 rfl ?_
          refine pw_iload (aX9_readLeb 36 rfl) rfl ?_
          refine pw_bipush (v := (127 : Int32)) (aX9_readLeb 37 rfl) rfl ?_
          refine pw_iand (aX9_readLeb 38 rfl) ?_
          refine pw_i2l (aX9_readLeb 39 rfl) ?_
          refine pw_bipush (v := (7 : Int32)) (aX9_readLeb 40 rfl) rfl ?_
          refine pw_iload (aX9_readLeb 41 rfl) rfl ?_
          refine pw_imul (aX9_readLeb 42 rfl) ?_
          refine pw_lshl (aX9_readLeb 43 rfl) ?_
          refine pw_lor (aX9_readLeb 44 rfl) ?_
          refine pw_putrl (aX9_readLeb 45 rfl) uf_RX9_115 (fun _ _ _ => rfl) (fun t8 => ?_)
          refine pw_iload (aX9_readLeb 46 rfl) rfl ?_
          refine pw_sipush (v := (128 : Int32)) (aX9_readLeb 47 rfl) rfl ?_
          refine pw_icge (tgt := 130) (aX9_readLeb 48 rfl) (by decide) (fun b8 => ?_) (fun b8 => ?_)
          · skip
            refine pw_iloadn (aX9_readLeb 49 rfl) rfl ?_
            refine pw_ifeq (tgt := 128) (aX9_readLeb 50 rfl) (by decide) (fun b9 => ?_) (fun b9 => ?_)
            · skip
              refine pw_iconst (v := (0 : Int32)) (aX9_readLeb 70 rfl) rfl ?_
              exact pw_iret (aX9_readLeb 71 rfl) hok
            · skip
              refine pw_iload (aX9_readLeb 51 rfl) rfl ?_
              refine pw_bipush (v := (9 : Int32)) (aX9_readLeb 52 rfl) rfl ?_
              refine pw_icge (tgt := 128) (aX9_readLeb 53 rfl) (by decide) (fun b10 => ?_) (fun b10 => ?_)
              · skip
                refine pw_iload (aX9_readLeb 54 rfl) rfl ?_
                refine pw_bipush (v := (64 : Int32)) (aX9_readLeb 55 rfl) rfl ?_
                refine pw_iand (aX9_readLeb 56 rfl) ?_
                refine pw_ifeq (tgt := 128) (aX9_readLeb 57 rfl) (by decide) (fun b11 => ?_) (fun b11 => ?_)
                · skip
                  refine pw_iconst (v := (0 : Int32)) (aX9_readLeb 70 rfl) rfl ?_
                  exact pw_iret (aX9_readLeb 71 rfl) hok
                · skip
                  refine pw_aloadn (aX9_readLeb 58 rfl) rfl ?_
                  refine pw_dup (aX9_readLeb 59 rfl) ?_
                  refine pw_getr (v := .long ((FL 49 14) ||| ((((FI c6 (FI 49 10).toInt.toNat) &&& ((127 : Int32))).toInt64) <<< ((((7 : Int32)) * (l4i)).toInt64 &&& 63)))) (aX9_readLeb 60 rfl) uf_RX9_115 un_RX9_115 rfl ?_
                  refine pw_ldc2 (v := (-1 : Int64)) (aX9_readLeb 61 rfl) uk_RX9_125 ?_
                  refine pw_bipush (v := (7 : Int32)) (aX9_readLeb 62 rfl) rfl ?_
                  refine pw_iload (aX9_readLeb 63 rfl) rfl ?_
                  refine pw_imul (aX9_readLeb 64 rfl) ?_
                  refine pw_bipush (v := (7 : Int32)) (aX9_readLeb 65 rfl) rfl ?_
                  refine pw_iadd (aX9_readLeb 66 rfl) ?_
                  refine pw_lshl (aX9_readLeb 67 rfl) ?_
                  refine pw_lor (aX9_readLeb 68 rfl) ?_
                  refine pw_putrl (aX9_readLeb 69 rfl) uf_RX9_115 (fun _ _ _ => rfl) (fun t13 => ?_)
                  refine pw_iconst (v := (0 : Int32)) (aX9_readLeb 70 rfl) rfl ?_
                  exact pw_iret (aX9_readLeb 71 rfl) hok
              · skip
                refine pw_iconst (v := (0 : Int32)) (aX9_readLeb 70 rfl) rfl ?_
                exact pw_iret (aX9_readLeb 71 rfl) hok
          · skip
            refine pw_iinc (v := (l4i) + (1 : Int32)) (L2 := [(4, .int ((l4i) + (1 : Int32))), (5, .int (FI c6 (FI 49 10).toInt.toNat)), (0, .ref (base + 49)), (1, va_rf (h_rf base (a1))), (2, .int (a2)), (3, .int (a3))]) (aX9_readLeb 72 rfl) rfl rfl (by first | rfl | (simp [x_s1, x_s2, va_cat, va_ci, va_cl, va_cr, va_cn]; done) | (simp [x_s1, x_s2, va_cat, va_ci, va_cl, va_cr, va_cn]; decide)) ?_
            refine pw_goto (tgt := 8) (aX9_readLeb 73 rfl) (by decide) ?_
            exact pw_Li (L2 := [(0, .ref (base + 49)), (1, va_rf (h_rf base (a1))), (2, .int (a2)), (3, .int (a3)), (4, .int ((l4i) + (1 : Int32))), (5, .int (FI c6 (FI 49 10).toInt.toNat))]) [4, 5, 0, 1, 2, 3] (hK8 ((l4i) + (1 : Int32)) (FI c6 (FI 49 10).toInt.toNat) n sl SH (h_up FI 49 10 ((FI 49 10) + ((1 : Int32)))) (h_up FL 49 14 ((FL 49 14) ||| ((((FI c6 (FI 49 10).toInt.toNat) &&& ((127 : Int32))).toInt64) <<< ((((7 : Int32)) * (l4i)).toInt64 &&& 63)))) FR hok) ⟨rfl, rfl, rfl, rfl, rfl, rfl, trivial⟩
        · skip
          refine pw_iconst (v := (1 : Int32)) (aX9_readLeb 20 rfl) rfl ?_
          exact pw_iret (aX9_readLeb 21 rfl) hok
      · skip
        refine pw_iconst (v := (1 : Int32)) (aX9_readLeb 20 rfl) rfl ?_
        exact pw_iret (aX9_readLeb 21 rfl) hok
  · skip
    refine pw_bipush (v := (15 : Int32)) (aX9_readLeb 74 rfl) rfl ?_
    exact pw_iret (aX9_readLeb 75 rfl) hok
theorem gX9_readLebI_8 {sk : xK} {base d : Nat}  (hkb : x_kb sk base) (a1 : Option Nat) (a2 : Int32) (a3 : Int32) (N : Nat) :  ∀ (l4i : Int32) (l5i : Int32) (n sl : Nat) (SH : Nat → Nat × Nat) (FI : Nat → Nat → Int32) (FL : Nat → Nat → Int64) (FR : Nat → Nat → Option Nat), pk n SH FR → pw pj_I sk base N d none 92 8 [(0, .ref (base + 49)), (1, va_rf (h_rf base (a1))), (2, .int (a2)), (3, .int (a3)), (4, .int (l4i)), (5, .int (l5i))] [] (n, sl, SH, FI, FL, FR) (GX9_readLebI_8  a1 a2 a3 (N + 1) l4i n sl SH FI FL FR) := by
  induction N with
  | zero => intros; exact pw_0
  | succ N ih => intro   l4i l5i n sl SH FI FL FR hok; exact bX9_readLebI_8 hkb a1 a2 a3 l4i l5i n sl SH FI FL FR hok  (ih  )
theorem rX9_readLebI_8 {sk : xK} {base N d : Nat}  (hkb : x_kb sk base) (a1 : Option Nat) (a2 : Int32) (a3 : Int32) (l4i : Int32) (l5i : Int32) (n sl : Nat) (SH : Nat → Nat × Nat) (FI : Nat → Nat → Int32) (FL : Nat → Nat → Int64) (FR : Nat → Nat → Option Nat) (hok : pk n SH FR)   : pw pj_I sk base N d none 92 8 [(0, .ref (base + 49)), (1, va_rf (h_rf base (a1))), (2, .int (a2)), (3, .int (a3)), (4, .int (l4i)), (5, .int (l5i))] [] (n, sl, SH, FI, FL, FR) (RX9_readLebI_8  a1 a2 a3 l4i n sl SH FI FL FR) := pw_cons (gX9_readLebI_8 hkb a1 a2 a3 N   l4i l5i n sl SH FI FL FR hok) (fun _ _ h => ⟨_, h⟩)
set_option maxHeartbeats 4000000 in
set_option maxRecDepth 100000 in
theorem rX9_readLebI {sk : xK} {base N d : Nat} (hkb : x_kb sk base) (a1 : Option Nat) (a2 : Int32) (a3 : Int32) (n sl : Nat) (SH : Nat → Nat × Nat) (FI : Nat → Nat → Int32) (FL : Nat → Nat → Int64) (FR : Nat → Nat → Option Nat) (hok : pk n SH FR)  : pw pj_I sk base N d none 92 0 [(0, .ref (base + 49)), (1, va_rf (h_rf base (a1))), (2, .int (a2)), (3, .int (a3))] [] (n, sl, SH, FI, FL, FR) (RX9_readLebI a1 a2 a3 n sl SH FI FL FR) := by
  unfold RX9_readLebI
  refine pw_aloadn (aX9_readLeb 0 rfl) rfl ?_
  refine pw_lconst (v := (0 : Int64)) (aX9_readLeb 1 rfl) rfl ?_
  refine pw_putrl (aX9_readLeb 2 rfl) uf_RX9_115 (fun _ _ _ => rfl) (fun t1 => ?_)
  refine pw_iconst (v := (0 : Int32)) (aX9_readLeb 3 rfl) rfl ?_
  refine pw_istore (L2 := [(4, .int ((0 : Int32))), (0, .ref (base + 49)), (1, va_rf (h_rf base (a1))), (2, .int (a2)), (3, .int (a3))]) (aX9_readLeb 4 rfl) (by first | rfl | (simp [x_s1, x_s2, va_cat, va_ci, va_cl, va_cr, va_cn]; done) | (simp [x_s1, x_s2, va_cat, va_ci, va_cl, va_cr, va_cn]; decide)) ?_
  exact pw_Li (L2 := [(0, .ref (base + 49)), (1, va_rf (h_rf base (a1))), (2, .int (a2)), (3, .int (a3)), (4, .int ((0 : Int32))), (5, .int 0)]) [4, 0, 1, 2, 3] (rX9_readLebI_8 hkb a1 a2 a3 ((0 : Int32)) 0 n sl SH FI (h_up FL 49 14 ((0 : Int64))) FR hok  ) ⟨rfl, rfl, rfl, rfl, rfl, trivial⟩
set_option maxHeartbeats 4000000 in
set_option maxRecDepth 100000 in
theorem rX9_readOperandsI_93 {sk : xK} {base N d : Nat}  (hkb : x_kb sk base) (a1 : Option Nat) (a2 : Int32) (a3 : Int32) (l4i : Int32)  (n sl : Nat) (SH : Nat → Nat × Nat) (FI : Nat → Nat → Int32) (FL : Nat → Nat → Int64) (FR : Nat → Nat → Option Nat) (hok : pk n SH FR)   : pw pj_I sk base N d none 90 93 [(0, .ref (base + 49)), (1, va_rf (h_rf base (a1))), (2, .int (a2)), (3, .int (a3)), (4, .int (l4i))] [] (n, sl, SH, FI, FL, FR) (RX9_readOperandsI_93  a1 a2 a3 l4i n sl SH FI FL FR) := by
  unfold RX9_readOperandsI_93
  refine pw_iload (aX9_readOperands 52 rfl) rfl ?_
  refine pw_ifne (tgt := 153) (aX9_readOperands 53 rfl) (by decide) (fun b0 => ?_) (fun b0 => ?_)
  · skip
    refine pw_iloadn (aX9_readOperands 54 rfl) rfl ?_
    refine pw_bipush (v := (24 : Int32)) (aX9_readOperands 55 rfl) rfl ?_
    refine pw_icne (tgt := 153) (aX9_readOperands 56 rfl) (by decide) (fun b1 => ?_) (fun b1 => ?_)
    · skip
      refine pw_aloadn (aX9_readOperands 57 rfl) rfl ?_
      refine pw_getr (v := .long (FL 49 12)) (aX9_readOperands 58 rfl) uf_RX9_96 un_RX9_96 rfl ?_
      refine pw_lconst (v := (0 : Int64)) (aX9_readOperands 59 rfl) rfl ?_
      refine pw_lclt (tgt := 128) (aX9_readOperands 60 rfl) (aX9_readOperands 61 rfl) (by decide) (fun b2 => ?_) (fun b2 => ?_)
      · skip
        refine pw_iconst (v := (1 : Int32)) (aX9_readOperands 71 rfl) rfl ?_
        exact pw_iret (aX9_readOperands 72 rfl) hok
      · skip
        refine pw_aloadn (aX9_readOperands 62 rfl) rfl ?_
        refine pw_getr (v := .long (FL 49 12)) (aX9_readOperands 63 rfl) uf_RX9_96 un_RX9_96 rfl ?_
        refine pw_iloadn (aX9_readOperands 64 rfl) rfl ?_
        refine pw_aloadn (aX9_readOperands 65 rfl) rfl ?_
        refine pw_getr (v := .int (FI 49 10)) (aX9_readOperands 66 rfl) uf_RX9_78 un_RX9_78 rfl ?_
        refine pw_isub (aX9_readOperands 67 rfl) ?_
        refine pw_i2l (aX9_readOperands 68 rfl) ?_
        refine pw_lcle (tgt := 130) (aX9_readOperands 69 rfl) (aX9_readOperands 70 rfl) (by decide) (fun b3 => ?_) (fun b3 => ?_)
        · skip
          refine pw_iconst (v := (1 : Int32)) (aX9_readOperands 71 rfl) rfl ?_
          exact pw_iret (aX9_readOperands 72 rfl) hok
        · skip
          refine pw_aloadn (aX9_readOperands 73 rfl) rfl ?_
          refine pw_aloadn (aX9_readOperands 74 rfl) rfl ?_
          refine pw_getr (v := .int (FI 49 10)) (aX9_readOperands 75 rfl) uf_RX9_78 un_RX9_78 rfl ?_
          refine pw_i2l (aX9_readOperands 76 rfl) ?_
          refine pw_putrl (aX9_readOperands 77 rfl) uf_RX9_118 (fun _ _ _ => rfl) (fun t5 => ?_)
          refine pw_aloadn (aX9_readOperands 78 rfl) rfl ?_
          refine pw_dup (aX9_readOperands 79 rfl) ?_
          refine pw_getr (v := .int (FI 49 10)) (aX9_readOperands 80 rfl) uf_RX9_78 un_RX9_78 rfl ?_
          refine pw_aloadn (aX9_readOperands 81 rfl) rfl ?_
          refine pw_getr (v := .long (FL 49 12)) (aX9_readOperands 82 rfl) uf_RX9_96 un_RX9_96 rfl ?_
          refine pw_l2i (aX9_readOperands 83 rfl) ?_
          refine pw_iadd (aX9_readOperands 84 rfl) ?_
          refine pw_putri (aX9_readOperands 85 rfl) uf_RX9_78 (fun _ _ _ => rfl) (fun t6 => ?_)
          refine pw_iload (aX9_readOperands 86 rfl) rfl ?_
          exact pw_iret (aX9_readOperands 87 rfl) hok
    · skip
      refine pw_iload (aX9_readOperands 86 rfl) rfl ?_
      exact pw_iret (aX9_readOperands 87 rfl) hok
  · skip
    refine pw_iload (aX9_readOperands 86 rfl) rfl ?_
    exact pw_iret (aX9_readOperands 87 rfl) hok
set_option maxHeartbeats 4000000 in
set_option maxRecDepth 100000 in
theorem rX9_readOperandsI_80 {sk : xK} {base N d : Nat}  (hkb : x_kb sk base) (a1 : Option Nat) (a2 : Int32) (a3 : Int32) (s0i : Int32) (s1i : Int32) (s2o : Option Nat) (l4i : Int32) (n sl : Nat) (SH : Nat → Nat × Nat) (FI : Nat → Nat → Int32) (FL : Nat → Nat → Int64) (FR : Nat → Nat → Option Nat) (hok : pk n SH FR)   : pw pj_I sk base N d none 90 80 [(0, .ref (base + 49)), (1, va_rf (h_rf base (a1))), (2, .int (a2)), (3, .int (a3)), (4, .int (l4i))] [.int (s0i), .int (s1i), va_rf (h_rf base (s2o)), .ref (base + 49)] (n, sl, SH, FI, FL, FR) (RX9_readOperandsI_80  a1 a2 a3 s0i s1i s2o n sl SH FI FL FR) := by
  unfold RX9_readOperandsI_80
  refine pw_callV (Bs := [va_rf (h_rf base (s2o)), .int (s1i), .int (s0i)]) (L2 := [(0, .ref (base + 49)), (1, va_rf (h_rf base (s2o))), (2, .int (s1i)), (3, .int (s0i))]) (rest := []) (aX9_readOperands 46 rfl) um_RX9_111 ujX9_readLeb wc_RX9_111.2.2.2.2 (by decide) (by decide) rfl (by first | rfl | simp [lv_args, va_cat, va_ci, va_cl, va_cr, va_cn]) (fun d => rX9_readLebI hkb (s2o) (s1i) (s0i) n sl SH FI FL FR hok) (fun v0 n0 sl0 SH0 FI0 FL0 FR0 hok0 _ => ?_)
  show pw _ _ _ _ _ _ _ 83 _ [.int (v0)] _ _
  refine pw_istore (L2 := [(4, .int (v0)), (0, .ref (base + 49)), (1, va_rf (h_rf base (a1))), (2, .int (a2)), (3, .int (a3))]) (aX9_readOperands 47 rfl) (by first | rfl | (simp [x_s1, x_s2, va_cat, va_ci, va_cl, va_cr, va_cn]; done) | (simp [x_s1, x_s2, va_cat, va_ci, va_cl, va_cr, va_cn]; decide)) ?_
  refine pw_aloadn (aX9_readOperands 48 rfl) rfl ?_
  refine pw_aloadn (aX9_readOperands 49 rfl) rfl ?_
  refine pw_getr (v := .long (FL0 49 14)) (aX9_readOperands 50 rfl) uf_RX9_115 un_RX9_115 rfl ?_
  refine pw_putrl (aX9_readOperands 51 rfl) uf_RX9_118 (fun _ _ _ => rfl) (fun t2 => ?_)
  exact pw_Li (L2 := [(0, .ref (base + 49)), (1, va_rf (h_rf base (a1))), (2, .int (a2)), (3, .int (a3)), (4, .int (v0))]) [4, 0, 1, 2, 3] (rX9_readOperandsI_93 hkb a1 a2 a3 (v0) n0 sl0 SH0 FI0 (h_up FL0 49 13 (FL0 49 14)) FR0 hok0  ) ⟨rfl, rfl, rfl, rfl, rfl, trivial⟩
set_option maxHeartbeats 4000000 in
set_option maxRecDepth 100000 in
theorem rX9_readOperandsI_66 {sk : xK} {base N d : Nat}  (hkb : x_kb sk base) (a1 : Option Nat) (a2 : Int32) (a3 : Int32)  (l4i : Int32) (n sl : Nat) (SH : Nat → Nat × Nat) (FI : Nat → Nat → Int32) (FL : Nat → Nat → Int64) (FR : Nat → Nat → Option Nat) (hok : pk n SH FR)   : pw pj_I sk base N d none 90 66 [(0, .ref (base + 49)), (1, va_rf (h_rf base (a1))), (2, .int (a2)), (3, .int (a3)), (4, .int (l4i))] [] (n, sl, SH, FI, FL, FR) (RX9_readOperandsI_66  a1 a2 a3  n sl SH FI FL FR) := by
  unfold RX9_readOperandsI_66
  refine pw_aloadn (aX9_readOperands 37 rfl) rfl ?_
  refine pw_aloadn (aX9_readOperands 38 rfl) rfl ?_
  refine pw_iloadn (aX9_readOperands 39 rfl) rfl ?_
  refine pw_iloadn (aX9_readOperands 40 rfl) rfl ?_
  refine pw_bipush (v := (22 : Int32)) (aX9_readOperands 41 rfl) rfl ?_
  refine pw_icne (tgt := 79) (aX9_readOperands 42 rfl) (by decide) (fun b0 => ?_) (fun b0 => ?_)
  · skip
    refine pw_iconst (v := (1 : Int32)) (aX9_readOperands 43 rfl) rfl ?_
    refine pw_goto (tgt := 80) (aX9_readOperands 44 rfl) (by decide) ?_
    exact pw_Li (L2 := [(0, .ref (base + 49)), (1, va_rf (h_rf base (a1))), (2, .int (a2)), (3, .int (a3)), (4, .int (l4i))]) [0, 1, 2, 3, 4] (rX9_readOperandsI_80 hkb a1 a2 a3 ((1 : Int32)) (a2) (a1) (l4i) n sl SH FI FL FR hok  ) ⟨rfl, rfl, rfl, rfl, rfl, trivial⟩
  · skip
    refine pw_iconst (v := (0 : Int32)) (aX9_readOperands 45 rfl) rfl ?_
    exact pw_Li (L2 := [(0, .ref (base + 49)), (1, va_rf (h_rf base (a1))), (2, .int (a2)), (3, .int (a3)), (4, .int (l4i))]) [0, 1, 2, 3, 4] (rX9_readOperandsI_80 hkb a1 a2 a3 ((0 : Int32)) (a2) (a1) (l4i) n sl SH FI FL FR hok  ) ⟨rfl, rfl, rfl, rfl, rfl, trivial⟩
set_option maxHeartbeats 4000000 in
set_option maxRecDepth 100000 in
theorem rX9_readOperandsI_36 {sk : xK} {base N d : Nat}  (hkb : x_kb sk base) (a1 : Option Nat) (a2 : Int32) (a3 : Int32) (s0i : Int32) (s1i : Int32) (s2o : Option Nat)  (n sl : Nat) (SH : Nat → Nat × Nat) (FI : Nat → Nat → Int32) (FL : Nat → Nat → Int64) (FR : Nat → Nat → Option Nat) (hok : pk n SH FR)   : pw pj_I sk base N d none 90 36 [(0, .ref (base + 49)), (1, va_rf (h_rf base (a1))), (2, .int (a2)), (3, .int (a3))] [.int (s0i), .int (s1i), va_rf (h_rf base (s2o)), .ref (base + 49)] (n, sl, SH, FI, FL, FR) (RX9_readOperandsI_36  a1 a2 a3 s0i s1i s2o n sl SH FI FL FR) := by
  unfold RX9_readOperandsI_36
  refine pw_callV (Bs := [va_rf (h_rf base (s2o)), .int (s1i), .int (s0i)]) (L2 := [(0, .ref (base + 49)), (1, va_rf (h_rf base (s2o))), (2, .int (s1i)), (3, .int (s0i))]) (rest := []) (aX9_readOperands 23 rfl) um_RX9_111 ujX9_readLeb wc_RX9_111.2.2.2.2 (by decide) (by decide) rfl (by first | rfl | simp [lv_args, va_cat, va_ci, va_cl, va_cr, va_cn]) (fun d => rX9_readLebI hkb (s2o) (s1i) (s0i) n sl SH FI FL FR hok) (fun v0 n0 sl0 SH0 FI0 FL0 FR0 hok0 _ => ?_)
  show pw _ _ _ _ _ _ _ 39 _ [.int (v0)] _ _
  refine pw_istore (L2 := [(4, .int (v0)), (0, .ref (base + 49)), (1, va_rf (h_rf base (a1))), (2, .int (a2)), (3, .int (a3))]) (aX9_readOperands 24 rfl) (by first | rfl | (simp [x_s1, x_s2, va_cat, va_ci, va_cl, va_cr, va_cn]; done) | (simp [x_s1, x_s2, va_cat, va_ci, va_cl, va_cr, va_cn]; decide)) ?_
  refine pw_aloadn (aX9_readOperands 25 rfl) rfl ?_
  refine pw_aloadn (aX9_readOperands 26 rfl) rfl ?_
  refine pw_getr (v := .long (FL0 49 14)) (aX9_readOperands 27 rfl) uf_RX9_115 un_RX9_115 rfl ?_
  refine pw_putrl (aX9_readOperands 28 rfl) uf_RX9_96 (fun _ _ _ => rfl) (fun t2 => ?_)
  refine pw_iload (aX9_readOperands 29 rfl) rfl ?_
  refine pw_ifne (tgt := 93) (aX9_readOperands 30 rfl) (by decide) (fun b2 => ?_) (fun b2 => ?_)
  · skip
    refine pw_iloadn (aX9_readOperands 31 rfl) rfl ?_
    refine pw_bipush (v := (22 : Int32)) (aX9_readOperands 32 rfl) rfl ?_
    refine pw_iceq (tgt := 66) (aX9_readOperands 33 rfl) (by decide) (fun b3 => ?_) (fun b3 => ?_)
    · skip
      exact pw_Li (L2 := [(0, .ref (base + 49)), (1, va_rf (h_rf base (a1))), (2, .int (a2)), (3, .int (a3)), (4, .int (v0))]) [4, 0, 1, 2, 3] (rX9_readOperandsI_66 hkb a1 a2 a3 (v0) n0 sl0 SH0 FI0 (h_up FL0 49 12 (FL0 49 14)) FR0 hok0  ) ⟨rfl, rfl, rfl, rfl, rfl, trivial⟩
    · skip
      refine pw_iloadn (aX9_readOperands 34 rfl) rfl ?_
      refine pw_bipush (v := (23 : Int32)) (aX9_readOperands 35 rfl) rfl ?_
      refine pw_icne (tgt := 93) (aX9_readOperands 36 rfl) (by decide) (fun b4 => ?_) (fun b4 => ?_)
      · skip
        exact pw_Li (L2 := [(0, .ref (base + 49)), (1, va_rf (h_rf base (a1))), (2, .int (a2)), (3, .int (a3)), (4, .int (v0))]) [4, 0, 1, 2, 3] (rX9_readOperandsI_66 hkb a1 a2 a3 (v0) n0 sl0 SH0 FI0 (h_up FL0 49 12 (FL0 49 14)) FR0 hok0  ) ⟨rfl, rfl, rfl, rfl, rfl, trivial⟩
      · skip
        exact pw_Li (L2 := [(0, .ref (base + 49)), (1, va_rf (h_rf base (a1))), (2, .int (a2)), (3, .int (a3)), (4, .int (v0))]) [4, 0, 1, 2, 3] (rX9_readOperandsI_93 hkb a1 a2 a3 (v0) n0 sl0 SH0 FI0 (h_up FL0 49 12 (FL0 49 14)) FR0 hok0  ) ⟨rfl, rfl, rfl, rfl, rfl, trivial⟩
  · skip
    exact pw_Li (L2 := [(0, .ref (base + 49)), (1, va_rf (h_rf base (a1))), (2, .int (a2)), (3, .int (a3)), (4, .int (v0))]) [4, 0, 1, 2, 3] (rX9_readOperandsI_93 hkb a1 a2 a3 (v0) n0 sl0 SH0 FI0 (h_up FL0 49 12 (FL0 49 14)) FR0 hok0  ) ⟨rfl, rfl, rfl, rfl, rfl, trivial⟩
set_option maxHeartbeats 4000000 in
set_option maxRecDepth 100000 in
theorem rX9_readOperandsI {sk : xK} {base N d : Nat} (hkb : x_kb sk base) (a1 : Option Nat) (a2 : Int32) (a3 : Int32) (n sl : Nat) (SH : Nat → Nat × Nat) (FI : Nat → Nat → Int32) (FL : Nat → Nat → Int64) (FR : Nat → Nat → Option Nat) (hok : pk n SH FR)  : pw pj_I sk base N d none 90 0 [(0, .ref (base + 49)), (1, va_rf (h_rf base (a1))), (2, .int (a2)), (3, .int (a3))] [] (n, sl, SH, FI, FL, FR) (RX9_readOperandsI a1 a2 a3 n sl SH FI FL FR) := by
  unfold RX9_readOperandsI
  refine pw_iloadn (aX9_readOperands 0 rfl) rfl ?_
  refine pw_bipush (v := (25 : Int32)) (aX9_readOperands 1 rfl) rfl ?_
  refine pw_icne (tgt := 8) (aX9_readOperands 2 rfl) (by decide) (fun b0 => ?_) (fun b0 => ?_)
  · skip
    refine pw_iconst (v := (2 : Int32)) (aX9_readOperands 3 rfl) rfl ?_
    exact pw_iret (aX9_readOperands 4 rfl) hok
  · skip
    refine pw_iloadn (aX9_readOperands 5 rfl) rfl ?_
    refine pw_bipush (v := (20 : Int32)) (aX9_readOperands 6 rfl) rfl ?_
    refine pw_icge (tgt := 22) (aX9_readOperands 7 rfl) (by decide) (fun b1 => ?_) (fun b1 => ?_)
    · skip
      refine pw_aloadn (aX9_readOperands 8 rfl) rfl ?_
      refine pw_aloadn (aX9_readOperands 9 rfl) rfl ?_
      refine pw_iloadn (aX9_readOperands 10 rfl) rfl ?_
      refine pw_iloadn (aX9_readOperands 11 rfl) rfl ?_
      refine pw_callV (Bs := [va_rf (h_rf base (a1)), .int (a2), .int (a3)]) (L2 := [(0, .ref (base + 49)), (1, va_rf (h_rf base (a1))), (2, .int (a2)), (3, .int (a3))]) (rest := []) (aX9_readOperands 12 rfl) um_RX9_108 ujX9_readNumber wc_RX9_108.2.2.2.2 (by decide) (by decide) rfl (by first | rfl | simp [lv_args, va_cat, va_ci, va_cl, va_cr, va_cn]) (fun d => rX9_readNumberI hkb (a1) (a2) (a3) n sl SH FI FL FR hok) (fun v2 n2 sl2 SH2 FI2 FL2 FR2 hok2 _ => ?_)
      show pw _ _ _ _ _ _ _ 21 _ [.int (v2)] _ _
      exact pw_iret (aX9_readOperands 13 rfl) hok2
    · skip
      refine pw_aloadn (aX9_readOperands 14 rfl) rfl ?_
      refine pw_aloadn (aX9_readOperands 15 rfl) rfl ?_
      refine pw_iloadn (aX9_readOperands 16 rfl) rfl ?_
      refine pw_iloadn (aX9_readOperands 17 rfl) rfl ?_
      refine pw_bipush (v := (21 : Int32)) (aX9_readOperands 18 rfl) rfl ?_
      refine pw_icne (tgt := 35) (aX9_readOperands 19 rfl) (by decide) (fun b3 => ?_) (fun b3 => ?_)
      · skip
        refine pw_iconst (v := (1 : Int32)) (aX9_readOperands 20 rfl) rfl ?_
        refine pw_goto (tgt := 36) (aX9_readOperands 21 rfl) (by decide) ?_
        exact pw_Li (L2 := [(0, .ref (base + 49)), (1, va_rf (h_rf base (a1))), (2, .int (a2)), (3, .int (a3))]) [0, 1, 2, 3] (rX9_readOperandsI_36 hkb a1 a2 a3 ((1 : Int32)) (a2) (a1) n sl SH FI FL FR hok  ) ⟨rfl, rfl, rfl, rfl, trivial⟩
      · skip
        refine pw_iconst (v := (0 : Int32)) (aX9_readOperands 22 rfl) rfl ?_
        exact pw_Li (L2 := [(0, .ref (base + 49)), (1, va_rf (h_rf base (a1))), (2, .int (a2)), (3, .int (a3))]) [0, 1, 2, 3] (rX9_readOperandsI_36 hkb a1 a2 a3 ((0 : Int32)) (a2) (a1) n sl SH FI FL FR hok  ) ⟨rfl, rfl, rfl, rfl, trivial⟩
set_option maxHeartbeats 4000000 in
set_option maxRecDepth 100000 in
theorem rX9_isTooMuchI {sk : xK} {base N d : Nat} (hkb : x_kb sk base) (a1 : Int32) (n sl : Nat) (SH : Nat → Nat × Nat) (FI : Nat → Nat → Int32) (FL : Nat → Nat → Int64) (FR : Nat → Nat → Option Nat) (hok : pk n SH FR)  : pw pj_I sk base N d none 95 0 [(0, .ref (base + 49)), (1, .int (a1))] [] (n, sl, SH, FI, FL, FR) (P_ret (fX9_isTooMuchI a1 SH FI FL FR) (n, sl, SH, FI, FL, FR)) := by
  unfold fX9_isTooMuchI
  refine pw_iloadn (aX9_isTooMuch 0 rfl) rfl ?_
  refine pw_sipush (v := (147 : Int32)) (aX9_isTooMuch 1 rfl) rfl ?_
  refine pw_ite (pw_icne (tgt := 12) (aX9_isTooMuch 2 rfl) (by decide) (fun b0 => ?_) (fun b0 => ?_))
  · skip
    refine pw_bipush (v := (8 : Int32)) (aX9_isTooMuch 3 rfl) rfl ?_
    refine pw_goto (tgt := 13) (aX9_isTooMuch 4 rfl) (by decide) ?_
    refine pw_istoren (L2 := [(2, .int ((8 : Int32))), (0, .ref (base + 49)), (1, .int (a1))]) (aX9_isTooMuch 6 rfl) rfl ?_
    refine pw_aloadn (aX9_isTooMuch 7 rfl) rfl ?_
    refine pw_getr (v := .ref (base + 52)) (aX9_isTooMuch 8 rfl) uf_RX9_25 un_RX9_25 (congrArg (fun r => va_rf (h_rf base r)) (q49_4 (hok).2.1)) ?_
    refine pw_getr (v := .int (FI 52 1)) (aX9_isTooMuch 9 rfl) uf_RX9_146 un_RX9_146 rfl ?_
    refine pw_bipush (v := (16 : Int32)) (aX9_isTooMuch 10 rfl) rfl ?_
    refine pw_ite (pw_icge (tgt := 49) (aX9_isTooMuch 11 rfl) (by decide) (fun b1 => ?_) (fun b1 => ?_))
    · skip
      refine pw_aloadn (aX9_isTooMuch 12 rfl) rfl ?_
      refine pw_getr (v := .long (FL 49 12)) (aX9_isTooMuch 13 rfl) uf_RX9_96 un_RX9_96 rfl ?_
      refine pw_lconst (v := (0 : Int64)) (aX9_isTooMuch 14 rfl) rfl ?_
      refine pw_ite (pw_lclt (tgt := 49) (aX9_isTooMuch 15 rfl) (aX9_isTooMuch 16 rfl) (by decide) (fun b2 => ?_) (fun b2 => ?_))
      · skip
        refine pw_iconst (v := (1 : Int32)) (aX9_isTooMuch 25 rfl) rfl ?_
        exact pw_iret (aX9_isTooMuch 26 rfl) hok
      · skip
        refine pw_aloadn (aX9_isTooMuch 17 rfl) rfl ?_
        refine pw_getr (v := .long (FL 49 12)) (aX9_isTooMuch 18 rfl) uf_RX9_96 un_RX9_96 rfl ?_
        refine pw_sipush (v := (4096 : Int32)) (aX9_isTooMuch 19 rfl) rfl ?_
        refine pw_iloadn (aX9_isTooMuch 20 rfl) rfl ?_
        refine pw_sd (pw_idiv (aX9_isTooMuch 21 rfl) (fun _ => ?_))
        refine pw_i2l (aX9_isTooMuch 22 rfl) ?_
        refine pw_ite (pw_lcle (tgt := 51) (aX9_isTooMuch 23 rfl) (aX9_isTooMuch 24 rfl) (by decide) (fun b3 => ?_) (fun b3 => ?_))
        · skip
          refine pw_iconst (v := (1 : Int32)) (aX9_isTooMuch 25 rfl) rfl ?_
          exact pw_iret (aX9_isTooMuch 26 rfl) hok
        · skip
          refine pw_iloadn (aX9_isTooMuch 27 rfl) rfl ?_
          refine pw_sipush (v := (157 : Int32)) (aX9_isTooMuch 28 rfl) rfl ?_
          refine pw_ite (pw_icne (tgt := 80) (aX9_isTooMuch 29 rfl) (by decide) (fun b4 => ?_) (fun b4 => ?_))
          · skip
            refine pw_aloadn (aX9_isTooMuch 30 rfl) rfl ?_
            refine pw_getr (v := .long (FL 49 13)) (aX9_isTooMuch 31 rfl) uf_RX9_118 un_RX9_118 rfl ?_
            refine pw_lconst (v := (0 : Int64)) (aX9_isTooMuch 32 rfl) rfl ?_
            refine pw_ite (pw_lclt (tgt := 78) (aX9_isTooMuch 33 rfl) (aX9_isTooMuch 34 rfl) (by decide) (fun b5 => ?_) (fun b5 => ?_))
            · skip
              refine pw_iconst (v := (1 : Int32)) (aX9_isTooMuch 40 rfl) rfl ?_
              exact pw_iret (aX9_isTooMuch 41 rfl) hok
            · skip
              refine pw_aloadn (aX9_isTooMuch 35 rfl) rfl ?_
              refine pw_getr (v := .long (FL 49 13)) (aX9_isTooMuch 36 rfl) uf_RX9_118 un_RX9_118 rfl ?_
              refine pw_ldc2 (v := (4096 : Int64)) (aX9_isTooMuch 37 rfl) uk_RX9_149 ?_
              refine pw_ite (pw_lcle (tgt := 80) (aX9_isTooMuch 38 rfl) (aX9_isTooMuch 39 rfl) (by decide) (fun b6 => ?_) (fun b6 => ?_))
              · skip
                refine pw_iconst (v := (1 : Int32)) (aX9_isTooMuch 40 rfl) rfl ?_
                exact pw_iret (aX9_isTooMuch 41 rfl) hok
              · skip
                refine pw_aloadn (aX9_isTooMuch 42 rfl) rfl ?_
                refine pw_getr (v := .ref (base + 52)) (aX9_isTooMuch 43 rfl) uf_RX9_25 un_RX9_25 (congrArg (fun r => va_rf (h_rf base r)) (q49_4 (hok).2.1)) ?_
                refine pw_getr (v := .int (FI 52 2)) (aX9_isTooMuch 44 rfl) uf_RX9_151 un_RX9_151 rfl ?_
                refine pw_i2l (aX9_isTooMuch 45 rfl) ?_
                refine pw_aloadn (aX9_isTooMuch 46 rfl) rfl ?_
                refine pw_getr (v := .long (FL 49 12)) (aX9_isTooMuch 47 rfl) uf_RX9_96 un_RX9_96 rfl ?_
                refine pw_iloadn (aX9_isTooMuch 48 rfl) rfl ?_
                refine pw_i2l (aX9_isTooMuch 49 rfl) ?_
                refine pw_lmul (aX9_isTooMuch 50 rfl) ?_
                refine pw_ladd (aX9_isTooMuch 51 rfl) ?_
                refine pw_ldc2 (v := (4096 : Int64)) (aX9_isTooMuch 52 rfl) uk_RX9_149 ?_
                refine pw_ite (pw_lcle (tgt := 107) (aX9_isTooMuch 53 rfl) (aX9_isTooMuch 54 rfl) (by decide) (fun b7 => ?_) (fun b7 => ?_))
                · skip
                  refine pw_iconst (v := (1 : Int32)) (aX9_isTooMuch 55 rfl) rfl ?_
                  refine pw_goto (tgt := 108) (aX9_isTooMuch 56 rfl) (by decide) ?_
                  exact pw_iret (aX9_isTooMuch 58 rfl) hok
                · skip
                  refine pw_iconst (v := (0 : Int32)) (aX9_isTooMuch 57 rfl) rfl ?_
                  exact pw_iret (aX9_isTooMuch 58 rfl) hok
          · skip
            refine pw_aloadn (aX9_isTooMuch 42 rfl) rfl ?_
            refine pw_getr (v := .ref (base + 52)) (aX9_isTooMuch 43 rfl) uf_RX9_25 un_RX9_25 (congrArg (fun r => va_rf (h_rf base r)) (q49_4 (hok).2.1)) ?_
            refine pw_getr (v := .int (FI 52 2)) (aX9_isTooMuch 44 rfl) uf_RX9_151 un_RX9_151 rfl ?_
            refine pw_i2l (aX9_isTooMuch 45 rfl) ?_
            refine pw_aloadn (aX9_isTooMuch 46 rfl) rfl ?_
            refine pw_getr (v := .long (FL 49 12)) (aX9_isTooMuch 47 rfl) uf_RX9_96 un_RX9_96 rfl ?_
            refine pw_iloadn (aX9_isTooMuch 48 rfl) rfl ?_
            refine pw_i2l (aX9_isTooMuch 49 rfl) ?_
            refine pw_lmul (aX9_isTooMuch 50 rfl) ?_
            refine pw_ladd (aX9_isTooMuch 51 rfl) ?_
            refine pw_ldc2 (v := (4096 : Int64)) (aX9_isTooMuch 52 rfl) uk_RX9_149 ?_
            refine pw_ite (pw_lcle (tgt := 107) (aX9_isTooMuch 53 rfl) (aX9_isTooMuch 54 rfl) (by decide) (fun b8 => ?_) (fun b8 => ?_))
            · skip
              refine pw_iconst (v := (1 : Int32)) (aX9_isTooMuch 55 rfl) rfl ?_
              refine pw_goto (tgt := 108) (aX9_isTooMuch 56 rfl) (by decide) ?_
              exact pw_iret (aX9_isTooMuch 58 rfl) hok
            · skip
              refine pw_iconst (v := (0 : Int32)) (aX9_isTooMuch 57 rfl) rfl ?_
              exact pw_iret (aX9_isTooMuch 58 rfl) hok
    · skip
      refine pw_iconst (v := (1 : Int32)) (aX9_isTooMuch 25 rfl) rfl ?_
      exact pw_iret (aX9_isTooMuch 26 rfl) hok
  · skip
    refine pw_iconst (v := (1 : Int32)) (aX9_isTooMuch 5 rfl) rfl ?_
    refine pw_istoren (L2 := [(2, .int ((1 : Int32))), (0, .ref (base + 49)), (1, .int (a1))]) (aX9_isTooMuch 6 rfl) rfl ?_
    refine pw_aloadn (aX9_isTooMuch 7 rfl) rfl ?_
    refine pw_getr (v := .ref (base + 52)) (aX9_isTooMuch 8 rfl) uf_RX9_25 un_RX9_25 (congrArg (fun r => va_rf (h_rf base r)) (q49_4 (hok).2.1)) ?_
    refine pw_getr (v := .int (FI 52 1)) (aX9_isTooMuch 9 rfl) uf_RX9_146 un_RX9_146 rfl ?_
    refine pw_bipush (v := (16 : Int32)) (aX9_isTooMuch 10 rfl) rfl ?_
    refine pw_ite (pw_icge (tgt := 49) (aX9_isTooMuch 11 rfl) (by decide) (fun b9 => ?_) (fun b9 => ?_))
    · skip
      refine pw_aloadn (aX9_isTooMuch 12 rfl) rfl ?_
      refine pw_getr (v := .long (FL 49 12)) (aX9_isTooMuch 13 rfl) uf_RX9_96 un_RX9_96 rfl ?_
      refine pw_lconst (v := (0 : Int64)) (aX9_isTooMuch 14 rfl) rfl ?_
      refine pw_ite (pw_lclt (tgt := 49) (aX9_isTooMuch 15 rfl) (aX9_isTooMuch 16 rfl) (by decide) (fun b10 => ?_) (fun b10 => ?_))
      · skip
        refine pw_iconst (v := (1 : Int32)) (aX9_isTooMuch 25 rfl) rfl ?_
        exact pw_iret (aX9_isTooMuch 26 rfl) hok
      · skip
        refine pw_aloadn (aX9_isTooMuch 17 rfl) rfl ?_
        refine pw_getr (v := .long (FL 49 12)) (aX9_isTooMuch 18 rfl) uf_RX9_96 un_RX9_96 rfl ?_
        refine pw_sipush (v := (4096 : Int32)) (aX9_isTooMuch 19 rfl) rfl ?_
        refine pw_iloadn (aX9_isTooMuch 20 rfl) rfl ?_
        refine pw_sd (pw_idiv (aX9_isTooMuch 21 rfl) (fun _ => ?_))
        refine pw_i2l (aX9_isTooMuch 22 rfl) ?_
        refine pw_ite (pw_lcle (tgt := 51) (aX9_isTooMuch 23 rfl) (aX9_isTooMuch 24 rfl) (by decide) (fun b11 => ?_) (fun b11 => ?_))
        · skip
          refine pw_iconst (v := (1 : Int32)) (aX9_isTooMuch 25 rfl) rfl ?_
          exact pw_iret (aX9_isTooMuch 26 rfl) hok
        · skip
          refine pw_iloadn (aX9_isTooMuch 27 rfl) rfl ?_
          refine pw_sipush (v := (157 : Int32)) (aX9_isTooMuch 28 rfl) rfl ?_
          refine pw_ite (pw_icne (tgt := 80) (aX9_isTooMuch 29 rfl) (by decide) (fun b12 => ?_) (fun b12 => ?_))
          · skip
            refine pw_aloadn (aX9_isTooMuch 30 rfl) rfl ?_
            refine pw_getr (v := .long (FL 49 13)) (aX9_isTooMuch 31 rfl) uf_RX9_118 un_RX9_118 rfl ?_
            refine pw_lconst (v := (0 : Int64)) (aX9_isTooMuch 32 rfl) rfl ?_
            refine pw_ite (pw_lclt (tgt := 78) (aX9_isTooMuch 33 rfl) (aX9_isTooMuch 34 rfl) (by decide) (fun b13 => ?_) (fun b13 => ?_))
            · skip
              refine pw_iconst (v := (1 : Int32)) (aX9_isTooMuch 40 rfl) rfl ?_
              exact pw_iret (aX9_isTooMuch 41 rfl) hok
            · skip
              refine pw_aloadn (aX9_isTooMuch 35 rfl) rfl ?_
              refine pw_getr (v := .long (FL 49 13)) (aX9_isTooMuch 36 rfl) uf_RX9_118 un_RX9_118 rfl ?_
              refine pw_ldc2 (v := (4096 : Int64)) (aX9_isTooMuch 37 rfl) uk_RX9_149 ?_
              refine pw_ite (pw_lcle (tgt := 80) (aX9_isTooMuch 38 rfl) (aX9_isTooMuch 39 rfl) (by decide) (fun b14 => ?_) (fun b14 => ?_))
              · skip
                refine pw_iconst (v := (1 : Int32)) (aX9_isTooMuch 40 rfl) rfl ?_
                exact pw_iret (aX9_isTooMuch 41 rfl) hok
              · skip
                refine pw_aloadn (aX9_isTooMuch 42 rfl) rfl ?_
                refine pw_getr (v := .ref (base + 52)) (aX9_isTooMuch 43 rfl) uf_RX9_25 un_RX9_25 (congrArg (fun r => va_rf (h_rf base r)) (q49_4 (hok).2.1)) ?_
                refine pw_getr (v := .int (FI 52 2)) (aX9_isTooMuch 44 rfl) uf_RX9_151 un_RX9_151 rfl ?_
                refine pw_i2l (aX9_isTooMuch 45 rfl) ?_
                refine pw_aloadn (aX9_isTooMuch 46 rfl) rfl ?_
                refine pw_getr (v := .long (FL 49 12)) (aX9_isTooMuch 47 rfl) uf_RX9_96 un_RX9_96 rfl ?_
                refine pw_iloadn (aX9_isTooMuch 48 rfl) rfl ?_
                refine pw_i2l (aX9_isTooMuch 49 rfl) ?_
                refine pw_lmul (aX9_isTooMuch 50 rfl) ?_
                refine pw_ladd (aX9_isTooMuch 51 rfl) ?_
                refine pw_ldc2 (v := (4096 : Int64)) (aX9_isTooMuch 52 rfl) uk_RX9_149 ?_
                refine pw_ite (pw_lcle (tgt := 107) (aX9_isTooMuch 53 rfl) (aX9_isTooMuch 54 rfl) (by decide) (fun b15 => ?_) (fun b15 => ?_))
                · skip
                  refine pw_iconst (v := (1 : Int32)) (aX9_isTooMuch 55 rfl) rfl ?_
                  refine pw_goto (tgt := 108) (aX9_isTooMuch 56 rfl) (by decide) ?_
                  exact pw_iret (aX9_isTooMuch 58 rfl) hok
                · skip
                  refine pw_iconst (v := (0 : Int32)) (aX9_isTooMuch 57 rfl) rfl ?_
                  exact pw_iret (aX9_isTooMuch 58 rfl) hok
          · skip
            refine pw_aloadn (aX9_isTooMuch 42 rfl) rfl ?_
            refine pw_getr (v := .ref (base + 52)) (aX9_isTooMuch 43 rfl) uf_RX9_25 un_RX9_25 (congrArg (fun r => va_rf (h_rf base r)) (q49_4 (hok).2.1)) ?_
            refine pw_getr (v := .int (FI 52 2)) (aX9_isTooMuch 44 rfl) uf_RX9_151 un_RX9_151 rfl ?_
            refine pw_i2l (aX9_isTooMuch 45 rfl) ?_
            refine pw_aloadn (aX9_isTooMuch 46 rfl) rfl ?_
            refine pw_getr (v := .long (FL 49 12)) (aX9_isTooMuch 47 rfl) uf_RX9_96 un_RX9_96 rfl ?_
            refine pw_iloadn (aX9_isTooMuch 48 rfl) rfl ?_
            refine pw_i2l (aX9_isTooMuch 49 rfl) ?_
            refine pw_lmul (aX9_isTooMuch 50 rfl) ?_
            refine pw_ladd (aX9_isTooMuch 51 rfl) ?_
            refine pw_ldc2 (v := (4096 : Int64)) (aX9_isTooMuch 52 rfl) uk_RX9_149 ?_
            refine pw_ite (pw_lcle (tgt := 107) (aX9_isTooMuch 53 rfl) (aX9_isTooMuch 54 rfl) (by decide) (fun b16 => ?_) (fun b16 => ?_))
            · skip
              refine pw_iconst (v := (1 : Int32)) (aX9_isTooMuch 55 rfl) rfl ?_
              refine pw_goto (tgt := 108) (aX9_isTooMuch 56 rfl) (by decide) ?_
              exact pw_iret (aX9_isTooMuch 58 rfl) hok
            · skip
              refine pw_iconst (v := (0 : Int32)) (aX9_isTooMuch 57 rfl) rfl ?_
              exact pw_iret (aX9_isTooMuch 58 rfl) hok
    · skip
      refine pw_iconst (v := (1 : Int32)) (aX9_isTooMuch 25 rfl) rfl ?_
      exact pw_iret (aX9_isTooMuch 26 rfl) hok
set_option maxHeartbeats 4000000 in
set_option maxRecDepth 100000 in
theorem rX9_wantedI {sk : xK} {base N d : Nat} (hkb : x_kb sk base) (a1 : Int32) (n sl : Nat) (SH : Nat → Nat × Nat) (FI : Nat → Nat → Int32) (FL : Nat → Nat → Int64) (FR : Nat → Nat → Option Nat) (hok : pk n SH FR)  : pw pj_I sk base N d none 96 0 [(0, .ref (base + 49)), (1, .int (a1))] [] (n, sl, SH, FI, FL, FR) (P_ret (fX9_wantedI a1 SH FI FL FR) (n, sl, SH, FI, FL, FR)) := by
  unfold fX9_wantedI
  refine pw_iloadn (aX9_wanted 0 rfl) rfl ?_
  refine pw_lsw aX9_wanted_1 (fun tg ht => ?_)
  refine pw_ite (pw_case ((a1).toInt = 6 ∨ (a1).toInt = 18 ∨ (a1).toInt = 19 ∨ (a1).toInt = 25 ∨ (a1).toInt = 31 ∨ (a1).toInt = 32 ∨ (a1).toInt = 35 ∨ (a1).toInt = 40 ∨ (a1).toInt = 148 ∨ (a1).toInt = 155 ∨ (a1).toInt = 159) (fun b1 => ?_) (fun b1 => ?_))
  · have et : tg = 132 := by
      rcases b1 with h9 | h9 | h9 | h9 | h9 | h9 | h9 | h9 | h9 | h9 | h9
      · have e9 : Jvm.Op.lookupswitch.offset [(6, 131), (18, 131), (19, 131), (20, 133), (21, 135), (22, 133), (23, 143), (25, 131), (31, 131), (32, 131), (35, 131), (40, 131), (148, 131), (155, 131), (159, 131)] (145) (6) = 131 := (by decide); rw [h9, e9] at ht; omega
      · have e9 : Jvm.Op.lookupswitch.offset [(6, 131), (18, 131), (19, 131), (20, 133), (21, 135), (22, 133), (23, 143), (25, 131), (31, 131), (32, 131), (35, 131), (40, 131), (148, 131), (155, 131), (159, 131)] (145) (18) = 131 := (by decide); rw [h9, e9] at ht; omega
      · have e9 : Jvm.Op.lookupswitch.offset [(6, 131), (18, 131), (19, 131), (20, 133), (21, 135), (22, 133), (23, 143), (25, 131), (31, 131), (32, 131), (35, 131), (40, 131), (148, 131), (155, 131), (159, 131)] (145) (19) = 131 := (by decide); rw [h9, e9] at ht; omega
      · have e9 : Jvm.Op.lookupswitch.offset [(6, 131), (18, 131), (19, 131), (20, 133), (21, 135), (22, 133), (23, 143), (25, 131), (31, 131), (32, 131), (35, 131), (40, 131), (148, 131), (155, 131), (159, 131)] (145) (25) = 131 := (by decide); rw [h9, e9] at ht; omega
      · have e9 : Jvm.Op.lookupswitch.offset [(6, 131), (18, 131), (19, 131), (20, 133), (21, 135), (22, 133), (23, 143), (25, 131), (31, 131), (32, 131), (35, 131), (40, 131), (148, 131), (155, 131), (159, 131)] (145) (31) = 131 := (by decide); rw [h9, e9] at ht; omega
      · have e9 : Jvm.Op.lookupswitch.offset [(6, 131), (18, 131), (19, 131), (20, 133), (21, 135), (22, 133), (23, 143), (25, 131), (31, 131), (32, 131), (35, 131), (40, 131), (148, 131), (155, 131), (159, 131)] (145) (32) = 131 := (by decide); rw [h9, e9] at ht; omega
      · have e9 : Jvm.Op.lookupswitch.offset [(6, 131), (18, 131), (19, 131), (20, 133), (21, 135), (22, 133), (23, 143), (25, 131), (31, 131), (32, 131), (35, 131), (40, 131), (148, 131), (155, 131), (159, 131)] (145) (35) = 131 := (by decide); rw [h9, e9] at ht; omega
      · have e9 : Jvm.Op.lookupswitch.offset [(6, 131), (18, 131), (19, 131), (20, 133), (21, 135), (22, 133), (23, 143), (25, 131), (31, 131), (32, 131), (35, 131), (40, 131), (148, 131), (155, 131), (159, 131)] (145) (40) = 131 := (by decide); rw [h9, e9] at ht; omega
      · have e9 : Jvm.Op.lookupswitch.offset [(6, 131), (18, 131), (19, 131), (20, 133), (21, 135), (22, 133), (23, 143), (25, 131), (31, 131), (32, 131), (35, 131), (40, 131), (148, 131), (155, 131), (159, 131)] (145) (148) = 131 := (by decide); rw [h9, e9] at ht; omega
      · have e9 : Jvm.Op.lookupswitch.offset [(6, 131), (18, 131), (19, 131), (20, 133), (21, 135), (22, 133), (23, 143), (25, 131), (31, 131), (32, 131), (35, 131), (40, 131), (148, 131), (155, 131), (159, 131)] (145) (155) = 131 := (by decide); rw [h9, e9] at ht; omega
      · have e9 : Jvm.Op.lookupswitch.offset [(6, 131), (18, 131), (19, 131), (20, 133), (21, 135), (22, 133), (23, 143), (25, 131), (31, 131), (32, 131), (35, 131), (40, 131), (148, 131), (155, 131), (159, 131)] (145) (159) = 131 := (by decide); rw [h9, e9] at ht; omega
    subst et
    refine pw_iconst (v := (1 : Int32)) (aX9_wanted 1 rfl) rfl ?_
    exact pw_iret (aX9_wanted 2 rfl) hok
  skip
  refine pw_ite (pw_case ((a1).toInt = 20 ∨ (a1).toInt = 22) (fun b2 => ?_) (fun b2 => ?_))
  · have et : tg = 134 := by
      rcases b2 with h9 | h9
      · have e9 : Jvm.Op.lookupswitch.offset [(6, 131), (18, 131), (19, 131), (20, 133), (21, 135), (22, 133), (23, 143), (25, 131), (31, 131), (32, 131), (35, 131), (40, 131), (148, 131), (155, 131), (159, 131)] (145) (20) = 133 := (by decide); rw [h9, e9] at ht; omega
      · have e9 : Jvm.Op.lookupswitch.offset [(6, 131), (18, 131), (19, 131), (20, 133), (21, 135), (22, 133), (23, 143), (25, 131), (31, 131), (32, 131), (35, 131), (40, 131), (148, 131), (155, 131), (159, 131)] (145) (22) = 133 := (by decide); rw [h9, e9] at ht; omega
    subst et
    refine pw_iconst (v := (2 : Int32)) (aX9_wanted 3 rfl) rfl ?_
    exact pw_iret (aX9_wanted 4 rfl) hok
  skip
  refine pw_ite (pw_case ((a1).toInt = 21) (fun b3 => ?_) (fun b3 => ?_))
  · have et : tg = 136 := by
      have e9 : Jvm.Op.lookupswitch.offset [(6, 131), (18, 131), (19, 131), (20, 133), (21, 135), (22, 133), (23, 143), (25, 131), (31, 131), (32, 131), (35, 131), (40, 131), (148, 131), (155, 131), (159, 131)] (145) (21) = 135 := (by decide); rw [b3, e9] at ht; omega
    subst et
    refine pw_aloadn (aX9_wanted 5 rfl) rfl ?_
    refine pw_getr (v := .long (FL 49 12)) (aX9_wanted 6 rfl) uf_RX9_96 un_RX9_96 rfl ?_
    refine pw_l2i (aX9_wanted 7 rfl) ?_
    refine pw_iconst (v := (1 : Int32)) (aX9_wanted 8 rfl) rfl ?_
    refine pw_iadd (aX9_wanted 9 rfl) ?_
    exact pw_iret (aX9_wanted 10 rfl) hok
  skip
  refine pw_ite (pw_case ((a1).toInt = 23) (fun b4 => ?_) (fun b4 => ?_))
  · have et : tg = 144 := by
      have e9 : Jvm.Op.lookupswitch.offset [(6, 131), (18, 131), (19, 131), (20, 133), (21, 135), (22, 133), (23, 143), (25, 131), (31, 131), (32, 131), (35, 131), (40, 131), (148, 131), (155, 131), (159, 131)] (145) (23) = 143 := (by decide); rw [b4, e9] at ht; omega
    subst et
    refine pw_iconst (v := (3 : Int32)) (aX9_wanted 11 rfl) rfl ?_
    exact pw_iret (aX9_wanted 12 rfl) hok
  skip
  have et : tg = 146 := by
    simp only [Jvm.Op.lookupswitch.offset] at ht; rw [if_neg (by omega), if_neg (by omega), if_neg (by omega), if_neg (by omega), if_neg (by omega), if_neg (by omega), if_neg (by omega), if_neg (by omega), if_neg (by omega), if_neg (by omega), if_neg (by omega), if_neg (by omega), if_neg (by omega), if_neg (by omega), if_neg (by omega)] at ht; omega
  subst et
  refine pw_iloadn (aX9_wanted 13 rfl) rfl ?_
  refine pw_bipush (v := (26 : Int32)) (aX9_wanted 14 rfl) rfl ?_
  refine pw_ite (pw_iclt (tgt := 162) (aX9_wanted 15 rfl) (by decide) (fun b4 => ?_) (fun b4 => ?_))
  · skip
    refine pw_iconst (v := (0 : Int32)) (aX9_wanted 21 rfl) rfl ?_
    exact pw_iret (aX9_wanted 22 rfl) hok
  · skip
    refine pw_iloadn (aX9_wanted 16 rfl) rfl ?_
    refine pw_bipush (v := (46 : Int32)) (aX9_wanted 17 rfl) rfl ?_
    refine pw_ite (pw_icgt (tgt := 162) (aX9_wanted 18 rfl) (by decide) (fun b5 => ?_) (fun b5 => ?_))
    · skip
      refine pw_iconst (v := (0 : Int32)) (aX9_wanted 21 rfl) rfl ?_
      exact pw_iret (aX9_wanted 22 rfl) hok
    · skip
      refine pw_iconst (v := (2 : Int32)) (aX9_wanted 19 rfl) rfl ?_
      refine pw_goto (tgt := 163) (aX9_wanted 20 rfl) (by decide) ?_
      exact pw_iret (aX9_wanted 22 rfl) hok
set_option maxHeartbeats 4000000 in
set_option maxRecDepth 100000 in
theorem rX9_checkI_112 {sk : xK} {base N d : Nat}  (hkb : x_kb sk base) (a1 : Int32)   (n sl : Nat) (SH : Nat → Nat × Nat) (FI : Nat → Nat → Int32) (FL : Nat → Nat → Int64) (FR : Nat → Nat → Option Nat) (hok : pk n SH FR)   : pw pj_I sk base N d none 93 112 [(0, .ref (base + 49)), (1, .int (a1))] [] (n, sl, SH, FI, FL, FR) (RX9_checkI_112  a1  n sl SH FI FL FR) := by
  unfold RX9_checkI_112
  refine pw_aloadn (aX9_check 54 rfl) rfl ?_
  refine pw_getr (v := .int (FI 49 5)) (aX9_check 55 rfl) uf_RX9_62 un_RX9_62 rfl ?_
  refine pw_aloadn (aX9_check 56 rfl) rfl ?_
  refine pw_iloadn (aX9_check 57 rfl) rfl ?_
  refine pw_cf (pw_callV (Bs := [.int (a1)]) (rest := [.int (FI 49 5)]) (aX9_check 58 rfl) um_RX9_143 ujX9_wanted wc_RX9_143.2.2.2.2 (by decide) (by decide) rfl rfl (fun d => rX9_wantedI hkb (a1) n sl SH FI FL FR hok) (fun v0 n0 sl0 SH0 FI0 FL0 FR0 _ hC => ?_))
  obtain ⟨rfl, hC⟩ := hC; cases hC
  show pw _ _ _ _ _ _ _ 121 _ [.int (fX9_wantedI (a1) SH FI FL FR), .int (FI 49 5)] _ _
  refine pw_icge (tgt := 128) (aX9_check 59 rfl) (by decide) (fun b1 => ?_) (fun b1 => ?_)
  · skip
    refine pw_iconst (v := (3 : Int32)) (aX9_check 60 rfl) rfl ?_
    refine pw_goto (tgt := 129) (aX9_check 61 rfl) (by decide) ?_
    exact pw_iret (aX9_check 63 rfl) hok
  · skip
    refine pw_iconst (v := (0 : Int32)) (aX9_check 62 rfl) rfl ?_
    exact pw_iret (aX9_check 63 rfl) hok
set_option maxHeartbeats 4000000 in
set_option maxRecDepth 100000 in
theorem rX9_checkI_101 {sk : xK} {base N d : Nat}  (hkb : x_kb sk base) (a1 : Int32)   (n sl : Nat) (SH : Nat → Nat × Nat) (FI : Nat → Nat → Int32) (FL : Nat → Nat → Int64) (FR : Nat → Nat → Option Nat) (hok : pk n SH FR)   : pw pj_I sk base N d none 93 101 [(0, .ref (base + 49)), (1, .int (a1))] [] (n, sl, SH, FI, FL, FR) (RX9_checkI_101  a1  n sl SH FI FL FR) := by
  unfold RX9_checkI_101
  refine pw_aloadn (aX9_check 48 rfl) rfl ?_
  refine pw_iloadn (aX9_check 49 rfl) rfl ?_
  refine pw_cf (pw_callV (Bs := [.int (a1)]) (rest := []) (aX9_check 50 rfl) um_RX9_140 ujX9_isTooMuch wc_RX9_140.2.2.2.2 (by decide) (by decide) rfl rfl (fun d => rX9_isTooMuchI hkb (a1) n sl SH FI FL FR hok) (fun v0 n0 sl0 SH0 FI0 FL0 FR0 _ hC => ?_))
  obtain ⟨rfl, hC⟩ := hC; cases hC
  show pw _ _ _ _ _ _ _ 106 _ [.int (fX9_isTooMuchI (a1) SH FI FL FR)] _ _
  refine pw_ifeq (tgt := 112) (aX9_check 51 rfl) (by decide) (fun b1 => ?_) (fun b1 => ?_)
  · skip
    exact pw_Li (L2 := [(0, .ref (base + 49)), (1, .int (a1))]) [0, 1] (rX9_checkI_112 hkb a1  n sl SH FI FL FR hok  ) ⟨rfl, rfl, trivial⟩
  · skip
    refine pw_bipush (v := (13 : Int32)) (aX9_check 52 rfl) rfl ?_
    exact pw_iret (aX9_check 53 rfl) hok
set_option maxHeartbeats 4000000 in
set_option maxRecDepth 100000 in
theorem rX9_checkI_87 {sk : xK} {base N d : Nat}  (hkb : x_kb sk base) (a1 : Int32)   (n sl : Nat) (SH : Nat → Nat × Nat) (FI : Nat → Nat → Int32) (FL : Nat → Nat → Int64) (FR : Nat → Nat → Option Nat) (hok : pk n SH FR)   : pw pj_I sk base N d none 93 87 [(0, .ref (base + 49)), (1, .int (a1))] [] (n, sl, SH, FI, FL, FR) (RX9_checkI_87  a1  n sl SH FI FL FR) := by
  unfold RX9_checkI_87
  refine pw_iloadn (aX9_check 42 rfl) rfl ?_
  refine pw_sipush (v := (147 : Int32)) (aX9_check 43 rfl) rfl ?_
  refine pw_iceq (tgt := 101) (aX9_check 44 rfl) (by decide) (fun b0 => ?_) (fun b0 => ?_)
  · skip
    exact pw_Li (L2 := [(0, .ref (base + 49)), (1, .int (a1))]) [0, 1] (rX9_checkI_101 hkb a1  n sl SH FI FL FR hok  ) ⟨rfl, rfl, trivial⟩
  · skip
    refine pw_iloadn (aX9_check 45 rfl) rfl ?_
    refine pw_sipush (v := (157 : Int32)) (aX9_check 46 rfl) rfl ?_
    refine pw_icne (tgt := 112) (aX9_check 47 rfl) (by decide) (fun b1 => ?_) (fun b1 => ?_)
    · skip
      exact pw_Li (L2 := [(0, .ref (base + 49)), (1, .int (a1))]) [0, 1] (rX9_checkI_101 hkb a1  n sl SH FI FL FR hok  ) ⟨rfl, rfl, trivial⟩
    · skip
      exact pw_Li (L2 := [(0, .ref (base + 49)), (1, .int (a1))]) [0, 1] (rX9_checkI_112 hkb a1  n sl SH FI FL FR hok  ) ⟨rfl, rfl, trivial⟩
set_option maxHeartbeats 4000000 in
set_option maxRecDepth 100000 in
theorem rX9_checkI_57 {sk : xK} {base N d : Nat}  (hkb : x_kb sk base) (a1 : Int32)   (n sl : Nat) (SH : Nat → Nat × Nat) (FI : Nat → Nat → Int32) (FL : Nat → Nat → Int64) (FR : Nat → Nat → Option Nat) (hok : pk n SH FR)   : pw pj_I sk base N d none 93 57 [(0, .ref (base + 49)), (1, .int (a1))] [] (n, sl, SH, FI, FL, FR) (RX9_checkI_57  a1  n sl SH FI FL FR) := by
  unfold RX9_checkI_57
  refine pw_iloadn (aX9_check 27 rfl) rfl ?_
  refine pw_sipush (v := (148 : Int32)) (aX9_check 28 rfl) rfl ?_
  refine pw_icne (tgt := 87) (aX9_check 29 rfl) (by decide) (fun b0 => ?_) (fun b0 => ?_)
  · skip
    refine pw_aloadn (aX9_check 30 rfl) rfl ?_
    refine pw_getr (v := .long (FL 49 12)) (aX9_check 31 rfl) uf_RX9_96 un_RX9_96 rfl ?_
    refine pw_lconst (v := (1 : Int64)) (aX9_check 32 rfl) rfl ?_
    refine pw_lclt (tgt := 84) (aX9_check 33 rfl) (aX9_check 34 rfl) (by decide) (fun b1 => ?_) (fun b1 => ?_)
    · skip
      refine pw_bipush (v := (10 : Int32)) (aX9_check 40 rfl) rfl ?_
      exact pw_iret (aX9_check 41 rfl) hok
    · skip
      refine pw_aloadn (aX9_check 35 rfl) rfl ?_
      refine pw_getr (v := .long (FL 49 12)) (aX9_check 36 rfl) uf_RX9_96 un_RX9_96 rfl ?_
      refine pw_ldc2 (v := (8 : Int64)) (aX9_check 37 rfl) uk_RX9_138 ?_
      refine pw_lcle (tgt := 87) (aX9_check 38 rfl) (aX9_check 39 rfl) (by decide) (fun b2 => ?_) (fun b2 => ?_)
      · skip
        refine pw_bipush (v := (10 : Int32)) (aX9_check 40 rfl) rfl ?_
        exact pw_iret (aX9_check 41 rfl) hok
      · skip
        exact pw_Li (L2 := [(0, .ref (base + 49)), (1, .int (a1))]) [0, 1] (rX9_checkI_87 hkb a1  n sl SH FI FL FR hok  ) ⟨rfl, rfl, trivial⟩
  · skip
    exact pw_Li (L2 := [(0, .ref (base + 49)), (1, .int (a1))]) [0, 1] (rX9_checkI_87 hkb a1  n sl SH FI FL FR hok  ) ⟨rfl, rfl, trivial⟩
set_option maxHeartbeats 4000000 in
set_option maxRecDepth 100000 in
theorem rX9_checkI_34 {sk : xK} {base N d : Nat}  (hkb : x_kb sk base) (a1 : Int32)   (n sl : Nat) (SH : Nat → Nat × Nat) (FI : Nat → Nat → Int32) (FL : Nat → Nat → Int64) (FR : Nat → Nat → Option Nat) (hok : pk n SH FR)   : pw pj_I sk base N d none 93 34 [(0, .ref (base + 49)), (1, .int (a1))] [] (n, sl, SH, FI, FL, FR) (RX9_checkI_34  a1  n sl SH FI FL FR) := by
  unfold RX9_checkI_34
  refine pw_aloadn (aX9_check 15 rfl) rfl ?_
  refine pw_getr (v := .long (FL 49 12)) (aX9_check 16 rfl) uf_RX9_96 un_RX9_96 rfl ?_
  refine pw_lconst (v := (0 : Int64)) (aX9_check 17 rfl) rfl ?_
  refine pw_lclt (tgt := 54) (aX9_check 18 rfl) (aX9_check 19 rfl) (by decide) (fun b0 => ?_) (fun b0 => ?_)
  · skip
    refine pw_bipush (v := (14 : Int32)) (aX9_check 25 rfl) rfl ?_
    exact pw_iret (aX9_check 26 rfl) hok
  · skip
    refine pw_aloadn (aX9_check 20 rfl) rfl ?_
    refine pw_getr (v := .long (FL 49 12)) (aX9_check 21 rfl) uf_RX9_96 un_RX9_96 rfl ?_
    refine pw_ldc2 (v := (32 : Int64)) (aX9_check 22 rfl) uk_RX9_136 ?_
    refine pw_lclt (tgt := 57) (aX9_check 23 rfl) (aX9_check 24 rfl) (by decide) (fun b1 => ?_) (fun b1 => ?_)
    · skip
      exact pw_Li (L2 := [(0, .ref (base + 49)), (1, .int (a1))]) [0, 1] (rX9_checkI_57 hkb a1  n sl SH FI FL FR hok  ) ⟨rfl, rfl, trivial⟩
    · skip
      refine pw_bipush (v := (14 : Int32)) (aX9_check 25 rfl) rfl ?_
      exact pw_iret (aX9_check 26 rfl) hok
set_option maxHeartbeats 4000000 in
set_option maxRecDepth 100000 in
theorem rX9_checkI_20 {sk : xK} {base N d : Nat}  (hkb : x_kb sk base) (a1 : Int32)   (n sl : Nat) (SH : Nat → Nat × Nat) (FI : Nat → Nat → Int32) (FL : Nat → Nat → Int64) (FR : Nat → Nat → Option Nat) (hok : pk n SH FR)   : pw pj_I sk base N d none 93 20 [(0, .ref (base + 49)), (1, .int (a1))] [] (n, sl, SH, FI, FL, FR) (RX9_checkI_20  a1  n sl SH FI FL FR) := by
  unfold RX9_checkI_20
  refine pw_iloadn (aX9_check 9 rfl) rfl ?_
  refine pw_sipush (v := (144 : Int32)) (aX9_check 10 rfl) rfl ?_
  refine pw_iceq (tgt := 34) (aX9_check 11 rfl) (by decide) (fun b0 => ?_) (fun b0 => ?_)
  · skip
    exact pw_Li (L2 := [(0, .ref (base + 49)), (1, .int (a1))]) [0, 1] (rX9_checkI_34 hkb a1  n sl SH FI FL FR hok  ) ⟨rfl, rfl, trivial⟩
  · skip
    refine pw_iloadn (aX9_check 12 rfl) rfl ?_
    refine pw_sipush (v := (146 : Int32)) (aX9_check 13 rfl) rfl ?_
    refine pw_icne (tgt := 57) (aX9_check 14 rfl) (by decide) (fun b1 => ?_) (fun b1 => ?_)
    · skip
      exact pw_Li (L2 := [(0, .ref (base + 49)), (1, .int (a1))]) [0, 1] (rX9_checkI_34 hkb a1  n sl SH FI FL FR hok  ) ⟨rfl, rfl, trivial⟩
    · skip
      exact pw_Li (L2 := [(0, .ref (base + 49)), (1, .int (a1))]) [0, 1] (rX9_checkI_57 hkb a1  n sl SH FI FL FR hok  ) ⟨rfl, rfl, trivial⟩
set_option maxHeartbeats 4000000 in
set_option maxRecDepth 100000 in
theorem rX9_checkI {sk : xK} {base N d : Nat} (hkb : x_kb sk base) (a1 : Int32) (n sl : Nat) (SH : Nat → Nat × Nat) (FI : Nat → Nat → Int32) (FL : Nat → Nat → Int64) (FR : Nat → Nat → Option Nat) (hok : pk n SH FR)  : pw pj_I sk base N d none 93 0 [(0, .ref (base + 49)), (1, .int (a1))] [] (n, sl, SH, FI, FL, FR) (RX9_checkI a1 n sl SH FI FL FR) := by
  unfold RX9_checkI
  refine pw_aloadn (aX9_check 0 rfl) rfl ?_
  refine pw_getr (v := .ref (base + 51)) (aX9_check 1 rfl) uf_RX9_18 un_RX9_18 (congrArg (fun r => va_rf (h_rf base r)) (q49_3 (hok).2.1)) ?_
  refine pw_getr (v := .int (FI 51 0)) (aX9_check 2 rfl) uf_RX9_127 un_RX9_127 rfl ?_
  refine pw_ifeq (tgt := 20) (aX9_check 3 rfl) (by decide) (fun b0 => ?_) (fun b0 => ?_)
  · skip
    exact pw_Li (L2 := [(0, .ref (base + 49)), (1, .int (a1))]) [0, 1] (rX9_checkI_20 hkb a1  n sl SH FI FL FR hok  ) ⟨rfl, rfl, trivial⟩
  · skip
    refine pw_iloadn (aX9_check 4 rfl) rfl ?_
    refine pw_cf (pw_callS (As := [.int (a1)]) (rest := []) (aX9_check 5 rfl) um_RX9_130 ujX9_goesWithHold wc_RX9_130.2.2.2.2 (by decide) rfl rfl (fun d => rX9_goesWithHold hkb (a1) n sl SH FI FL FR hok) (fun v1 n1 sl1 SH1 FI1 FL1 FR1 _ hC => ?_))
    obtain ⟨rfl, hC⟩ := hC; cases hC
    show pw _ _ _ _ _ _ _ 14 _ [.int (fX9_goesWithHold (a1) SH FI FL FR)] _ _
    refine pw_ifne (tgt := 20) (aX9_check 6 rfl) (by decide) (fun b2 => ?_) (fun b2 => ?_)
    · skip
      refine pw_bipush (v := (9 : Int32)) (aX9_check 7 rfl) rfl ?_
      exact pw_iret (aX9_check 8 rfl) hok
    · skip
      exact pw_Li (L2 := [(0, .ref (base + 49)), (1, .int (a1))]) [0, 1] (rX9_checkI_20 hkb a1  n sl SH FI FL FR hok  ) ⟨rfl, rfl, trivial⟩
set_option maxHeartbeats 4000000 in
set_option maxRecDepth 100000 in
theorem rX9_pushI {sk : xK} {base N d : Nat} (hkb : x_kb sk base) (a1 : Int64) (n sl : Nat) (SH : Nat → Nat × Nat) (FI : Nat → Nat → Int32) (FL : Nat → Nat → Int64) (FR : Nat → Nat → Option Nat) (hok : pk n SH FR)  : pw pj_I sk base N d none 99 0 [(0, .ref (base + 49)), (1, .long (a1))] [] (n, sl, SH, FI, FL, FR) (RX9_pushI a1 n sl SH FI FL FR) := by
  unfold RX9_pushI
  refine pw_aloadn (aX9_push 0 rfl) rfl ?_
  refine pw_getr (v := .int (FI 49 5)) (aX9_push 1 rfl) uf_RX9_62 un_RX9_62 rfl ?_
  refine pw_aloadn (aX9_push 2 rfl) rfl ?_
  refine pw_getr (v := .ref (base + 50)) (aX9_push 3 rfl) uf_RX9_11 un_RX9_11 (congrArg (fun r => va_rf (h_rf base r)) (q49_2 (hok).2.1)) ?_
  refine pw_alenr hkb (c := 50) (aX9_push 4 rfl) ?_
  refine pw_iclt (tgt := 14) (aX9_push 5 rfl) (by decide) (fun b0 => ?_) (fun b0 => ?_)
  · skip
    refine pw_aloadn (aX9_push 8 rfl) rfl ?_
    refine pw_getr (v := .ref (base + 50)) (aX9_push 9 rfl) uf_RX9_11 un_RX9_11 (congrArg (fun r => va_rf (h_rf base r)) (q49_2 (hok).2.1)) ?_
    refine pw_aloadn (aX9_push 10 rfl) rfl ?_
    refine pw_getr (v := .int (FI 49 5)) (aX9_push 11 rfl) uf_RX9_62 un_RX9_62 rfl ?_
    refine pw_lloadn (aX9_push 12 rfl) rfl ?_
    refine pw_lastr (c := 50) (ix := (FI 49 5).toInt.toNat) (aX9_push 13 rfl) rfl (fun _ => ?_)
    refine pw_aloadn (aX9_push 14 rfl) rfl ?_
    refine pw_dup (aX9_push 15 rfl) ?_
    refine pw_getr (v := .int (FI 49 5)) (aX9_push 16 rfl) uf_RX9_62 un_RX9_62 rfl ?_
    refine pw_iconst (v := (1 : Int32)) (aX9_push 17 rfl) rfl ?_
    refine pw_iadd (aX9_push 18 rfl) ?_
    refine pw_putri (aX9_push 19 rfl) uf_RX9_62 (fun _ _ _ => rfl) (fun t2 => ?_)
    refine pw_aloadn (aX9_push 20 rfl) rfl ?_
    refine pw_aloadn (aX9_push 21 rfl) rfl ?_
    refine pw_getr (v := .int (FI 49 8)) (aX9_push 22 rfl) uf_RX9_59 un_RX9_59 rfl ?_
    refine pw_aloadn (aX9_push 23 rfl) rfl ?_
    refine pw_getr (v := .int ((FI 49 5) + ((1 : Int32)))) (aX9_push 24 rfl) uf_RX9_62 un_RX9_62 rfl ?_
    refine pw_cf (pw_callS (As := [.int (FI 49 8), .int ((FI 49 5) + ((1 : Int32)))]) (rest := [.ref (base + 49)]) (aX9_push 25 rfl) um_RX9_188 ujJ9_max_7cf53 wc_RX9_188.2.2.2.2 (by decide) rfl rfl (fun d => rJ9_max_7cf53 hkb (FI 49 8) ((FI 49 5) + ((1 : Int32))) n sl SH (h_up FI 49 5 ((FI 49 5) + ((1 : Int32)))) (h_up FL 50 (FI 49 5).toInt.toNat (a1)) FR hok) (fun v2 n2 sl2 SH2 FI2 FL2 FR2 _ hC => ?_))
    obtain ⟨rfl, hC⟩ := hC; cases hC
    show pw _ _ _ _ _ _ _ 46 _ [.int (fJ9_max_7cf53 (FI 49 8) ((FI 49 5) + ((1 : Int32))) SH (h_up FI 49 5 ((FI 49 5) + ((1 : Int32)))) (h_up FL 50 (FI 49 5).toInt.toNat (a1)) FR), .ref (base + 49)] _ _
    refine pw_putri (aX9_push 26 rfl) uf_RX9_59 (fun _ _ _ => rfl) (fun t4 => ?_)
    refine pw_iconst (v := (0 : Int32)) (aX9_push 27 rfl) rfl ?_
    exact pw_iret (aX9_push 28 rfl) hok
  · skip
    refine pw_iconst (v := (4 : Int32)) (aX9_push 6 rfl) rfl ?_
    exact pw_iret (aX9_push 7 rfl) hok
set_option maxHeartbeats 4000000 in
set_option maxRecDepth 100000 in
theorem rX9_pushBytesI {sk : xK} {base N d : Nat} (hkb : x_kb sk base) (a1 : Int64) (a2 : Int32) (n sl : Nat) (SH : Nat → Nat × Nat) (FI : Nat → Nat → Int32) (FL : Nat → Nat → Int64) (FR : Nat → Nat → Option Nat) (hok : pk n SH FR)  : pw pj_I sk base N d none 100 0 [(0, .ref (base + 49)), (1, .long (a1)), (3, .int (a2))] [] (n, sl, SH, FI, FL, FR) (RX9_pushBytesI a1 a2 n sl SH FI FL FR) := by
  unfold RX9_pushBytesI
  refine pw_aloadn (aX9_pushBytes 0 rfl) rfl ?_
  refine pw_getr (v := .ref (base + 23)) (aX9_pushBytes 1 rfl) uf_RX9_29 un_RX9_29 (congrArg (fun r => va_rf (h_rf base r)) (q49_0 (hok).2.1)) ?_
  refine pw_lloadn (aX9_pushBytes 2 rfl) rfl ?_
  refine pw_iloadn (aX9_pushBytes 3 rfl) rfl ?_
  refine pw_cf (pw_callV (Bs := [.long (a1), .int (a2)]) (rest := []) (aX9_pushBytes 4 rfl) um_RX9_193 ujX1_hasBytes wc_RX9_193.2.2.2.2 (by decide) (by decide) rfl rfl (fun d => rX1_hasBytes hkb (a1) (a2) n sl SH FI FL FR hok) (fun v0 n0 sl0 SH0 FI0 FL0 FR0 _ hC => ?_))
  obtain ⟨rfl, hC⟩ := hC; cases hC
  show pw _ _ _ _ _ _ _ 9 _ [.int (fX1_hasBytes (a1) (a2) SH FI FL FR)] _ _
  refine pw_ifeq (tgt := 28) (aX9_pushBytes 5 rfl) (by decide) (fun b1 => ?_) (fun b1 => ?_)
  · skip
    refine pw_iconst (v := (5 : Int32)) (aX9_pushBytes 14 rfl) rfl ?_
    exact pw_iret (aX9_pushBytes 15 rfl) hok
  · skip
    refine pw_aloadn (aX9_pushBytes 6 rfl) rfl ?_
    refine pw_aloadn (aX9_pushBytes 7 rfl) rfl ?_
    refine pw_getr (v := .ref (base + 23)) (aX9_pushBytes 8 rfl) uf_RX9_29 un_RX9_29 (congrArg (fun r => va_rf (h_rf base r)) (q49_0 (hok).2.1)) ?_
    refine pw_lloadn (aX9_pushBytes 9 rfl) rfl ?_
    refine pw_iloadn (aX9_pushBytes 10 rfl) rfl ?_
    refine pw_callV (Bs := [.long (a1), .int (a2)]) (rest := [.ref (base + 49)]) (aX9_pushBytes 11 rfl) um_RX9_197 ujX1_bytes wc_RX9_197.2.2.2.2 (by decide) (by decide) rfl rfl (fun d => rX1_bytes hkb (a1) (a2) n sl SH FI FL FR hok) (fun v2 n2 sl2 SH2 FI2 FL2 FR2 hok2 _ => ?_)
    show pw _ _ _ _ _ _ _ 22 _ [.long (v2), .ref (base + 49)] _ _
    refine pw_callV (Bs := [.long (v2)]) (rest := []) (aX9_pushBytes 12 rfl) um_RX9_158 ujX9_push wc_RX9_158.2.2.2.2 (by decide) (by decide) rfl rfl (fun d => rX9_pushI hkb (v2) n2 sl2 SH2 FI2 FL2 FR2 hok2) (fun v3 n3 sl3 SH3 FI3 FL3 FR3 hok3 _ => ?_)
    show pw _ _ _ _ _ _ _ 25 _ [.int (v3)] _ _
    refine pw_goto (tgt := 29) (aX9_pushBytes 13 rfl) (by decide) ?_
    exact pw_iret (aX9_pushBytes 15 rfl) hok3
set_option maxHeartbeats 4000000 in
set_option maxRecDepth 100000 in
theorem rX9_popI {sk : xK} {base N d : Nat} (hkb : x_kb sk base)  (n sl : Nat) (SH : Nat → Nat × Nat) (FI : Nat → Nat → Int32) (FL : Nat → Nat → Int64) (FR : Nat → Nat → Option Nat) (hok : pk n SH FR)  : pw pj_J sk base N d none 101 0 [(0, .ref (base + 49))] [] (n, sl, SH, FI, FL, FR) (RX9_popI  n sl SH FI FL FR) := by
  unfold RX9_popI
  refine pw_aloadn (aX9_pop 0 rfl) rfl ?_
  refine pw_getr (v := .int (FI 49 5)) (aX9_pop 1 rfl) uf_RX9_62 un_RX9_62 rfl ?_
  refine pw_ifle (tgt := 19) (aX9_pop 2 rfl) (by decide) (fun b0 => ?_) (fun b0 => ?_)
  · skip
    refine pw_aloadn (aX9_pop 3 rfl) rfl ?_
    refine pw_getr (v := .int (FI 49 5)) (aX9_pop 4 rfl) uf_RX9_62 un_RX9_62 rfl ?_
    refine pw_aloadn (aX9_pop 5 rfl) rfl ?_
    refine pw_getr (v := .ref (base + 50)) (aX9_pop 6 rfl) uf_RX9_11 un_RX9_11 (congrArg (fun r => va_rf (h_rf base r)) (q49_2 (hok).2.1)) ?_
    refine pw_alenr hkb (c := 50) (aX9_pop 7 rfl) ?_
    refine pw_icle (tgt := 21) (aX9_pop 8 rfl) (by decide) (fun b1 => ?_) (fun b1 => ?_)
    · skip
      refine pw_lconst (v := (0 : Int64)) (aX9_pop 9 rfl) rfl ?_
      exact pw_lret (aX9_pop 10 rfl) hok
    · skip
      refine pw_aloadn (aX9_pop 11 rfl) rfl ?_
      refine pw_dup (aX9_pop 12 rfl) ?_
      refine pw_getr (v := .int (FI 49 5)) (aX9_pop 13 rfl) uf_RX9_62 un_RX9_62 rfl ?_
      refine pw_iconst (v := (1 : Int32)) (aX9_pop 14 rfl) rfl ?_
      refine pw_isub (aX9_pop 15 rfl) ?_
      refine pw_putri (aX9_pop 16 rfl) uf_RX9_62 (fun _ _ _ => rfl) (fun t3 => ?_)
      refine pw_aloadn (aX9_pop 17 rfl) rfl ?_
      refine pw_getr (v := .ref (base + 50)) (aX9_pop 18 rfl) uf_RX9_11 un_RX9_11 (congrArg (fun r => va_rf (h_rf base r)) (q49_2 (hok).2.1)) ?_
      refine pw_aloadn (aX9_pop 19 rfl) rfl ?_
      refine pw_getr (v := .int ((FI 49 5) - ((1 : Int32)))) (aX9_pop 20 rfl) uf_RX9_62 un_RX9_62 rfl ?_
      refine pw_laldr (c := 50) (ix := ((FI 49 5) - ((1 : Int32))).toInt.toNat) (aX9_pop 21 rfl) rfl (fun _ => ?_)
      exact pw_lret (aX9_pop 22 rfl) hok
  · skip
    refine pw_lconst (v := (0 : Int64)) (aX9_pop 9 rfl) rfl ?_
    exact pw_lret (aX9_pop 10 rfl) hok
set_option maxHeartbeats 4000000 in
set_option maxRecDepth 100000 in
theorem rX9_belowI {sk : xK} {base N d : Nat} (hkb : x_kb sk base) (a1 : Int32) (n sl : Nat) (SH : Nat → Nat × Nat) (FI : Nat → Nat → Int32) (FL : Nat → Nat → Int64) (FR : Nat → Nat → Option Nat) (hok : pk n SH FR)  : pw pj_J sk base N d none 102 0 [(0, .ref (base + 49)), (1, .int (a1))] [] (n, sl, SH, FI, FL, FR) (P_ret (fX9_belowI a1 SH FI FL FR) (n, sl, SH, FI, FL, FR)) := by
  unfold fX9_belowI
  refine pw_aloadn (aX9_below 0 rfl) rfl ?_
  refine pw_getr (v := .int (FI 49 5)) (aX9_below 1 rfl) uf_RX9_62 un_RX9_62 rfl ?_
  refine pw_iconst (v := (1 : Int32)) (aX9_below 2 rfl) rfl ?_
  refine pw_isub (aX9_below 3 rfl) ?_
  refine pw_iloadn (aX9_below 4 rfl) rfl ?_
  refine pw_isub (aX9_below 5 rfl) ?_
  refine pw_istoren (L2 := [(2, .int (((FI 49 5) - ((1 : Int32))) - (a1))), (0, .ref (base + 49)), (1, .int (a1))]) (aX9_below 6 rfl) rfl ?_
  refine pw_iloadn (aX9_below 7 rfl) rfl ?_
  refine pw_ite (pw_iflt (tgt := 22) (aX9_below 8 rfl) (by decide) (fun b0 => ?_) (fun b0 => ?_))
  · skip
    refine pw_lconst (v := (0 : Int64)) (aX9_below 14 rfl) rfl ?_
    refine pw_goto (tgt := 32) (aX9_below 15 rfl) (by decide) ?_
    exact pw_lret (aX9_below 20 rfl) hok
  · skip
    refine pw_iloadn (aX9_below 9 rfl) rfl ?_
    refine pw_aloadn (aX9_below 10 rfl) rfl ?_
    refine pw_getr (v := .ref (base + 50)) (aX9_below 11 rfl) uf_RX9_11 un_RX9_11 (congrArg (fun r => va_rf (h_rf base r)) (q49_2 (hok).2.1)) ?_
    refine pw_alenr hkb (c := 50) (aX9_below 12 rfl) ?_
    refine pw_ite (pw_iclt (tgt := 26) (aX9_below 13 rfl) (by decide) (fun b1 => ?_) (fun b1 => ?_))
    · skip
      refine pw_aloadn (aX9_below 16 rfl) rfl ?_
      refine pw_getr (v := .ref (base + 50)) (aX9_below 17 rfl) uf_RX9_11 un_RX9_11 (congrArg (fun r => va_rf (h_rf base r)) (q49_2 (hok).2.1)) ?_
      refine pw_iloadn (aX9_below 18 rfl) rfl ?_
      refine pw_sd (pw_laldr (c := 50) (ix := (((FI 49 5) - ((1 : Int32))) - (a1)).toInt.toNat) (aX9_below 19 rfl) rfl (fun _ => ?_))
      exact pw_lret (aX9_below 20 rfl) hok
    · skip
      refine pw_lconst (v := (0 : Int64)) (aX9_below 14 rfl) rfl ?_
      refine pw_goto (tgt := 32) (aX9_below 15 rfl) (by decide) ?_
      exact pw_lret (aX9_below 20 rfl) hok
set_option maxHeartbeats 4000000 in
set_option maxRecDepth 100000 in
theorem rX9_shuffleI {sk : xK} {base N d : Nat} (hkb : x_kb sk base) (a1 : Int32) (n sl : Nat) (SH : Nat → Nat × Nat) (FI : Nat → Nat → Int32) (FL : Nat → Nat → Int64) (FR : Nat → Nat → Option Nat) (hok : pk n SH FR)  : pw pj_I sk base N d none 103 0 [(0, .ref (base + 49)), (1, .int (a1))] [] (n, sl, SH, FI, FL, FR) (RX9_shuffleI a1 n sl SH FI FL FR) := by
  unfold RX9_shuffleI
  refine pw_iloadn (aX9_shuffle 0 rfl) rfl ?_
  refine pw_tsw aX9_shuffle_1 (fun tg ht => ?_)
  refine pw_case ((a1).toInt = 18) (fun b1 => ?_) (fun b1 => ?_)
  · have et : tg = 32 := by
      rcases ht with ⟨h8, -⟩ | ⟨-, -, off, ho, ht⟩; { exact absurd h8 (by omega) }; { rw [b1] at ho; have e9 : off = (31 : Int) := (Option.some.inj (show some (31 : Int) = some off from ho)).symm; omega }
    subst et
    refine pw_aloadn (aX9_shuffle 1 rfl) rfl ?_
    refine pw_aloadn (aX9_shuffle 2 rfl) rfl ?_
    refine pw_iconst (v := (0 : Int32)) (aX9_shuffle 3 rfl) rfl ?_
    refine pw_cf (pw_callV (Bs := [.int ((0 : Int32))]) (rest := [.ref (base + 49)]) (aX9_shuffle 4 rfl) um_RX9_201 ujX9_below wc_RX9_201.2.2.2.2 (by decide) (by decide) rfl rfl (fun d => rX9_belowI hkb ((0 : Int32)) n sl SH FI FL FR hok) (fun v1 n1 sl1 SH1 FI1 FL1 FR1 _ hC => ?_))
    obtain ⟨rfl, hC⟩ := hC; cases hC
    show pw _ _ _ _ _ _ _ 38 _ [.long (fX9_belowI ((0 : Int32)) SH FI FL FR), .ref (base + 49)] _ _
    refine pw_callV (Bs := [.long (fX9_belowI ((0 : Int32)) SH FI FL FR)]) (rest := []) (aX9_shuffle 5 rfl) um_RX9_158 ujX9_push wc_RX9_158.2.2.2.2 (by decide) (by decide) rfl rfl (fun d => rX9_pushI hkb (fX9_belowI ((0 : Int32)) SH FI FL FR) n sl SH FI FL FR hok) (fun v2 n2 sl2 SH2 FI2 FL2 FR2 hok2 _ => ?_)
    show pw _ _ _ _ _ _ _ 41 _ [.int (v2)] _ _
    exact pw_iret (aX9_shuffle 6 rfl) hok2
  skip
  refine pw_case ((a1).toInt = 19) (fun b4 => ?_) (fun b4 => ?_)
  · have et : tg = 42 := by
      rcases ht with ⟨h8, -⟩ | ⟨-, -, off, ho, ht⟩; { exact absurd h8 (by omega) }; { rw [b4] at ho; have e9 : off = (41 : Int) := (Option.some.inj (show some (41 : Int) = some off from ho)).symm; omega }
    subst et
    refine pw_aloadn (aX9_shuffle 7 rfl) rfl ?_
    refine pw_callV (Bs := []) (rest := []) (aX9_shuffle 8 rfl) um_RX9_92 ujX9_pop wc_RX9_92.2.2.2.2 (by decide) (by decide) rfl rfl (fun d => rX9_popI hkb  n sl SH FI FL FR hok) (fun v4 n4 sl4 SH4 FI4 FL4 FR4 hok4 _ => ?_)
    show pw _ _ _ _ _ _ _ 46 _ [.long (v4)] _ _
    refine pw_pop2 (aX9_shuffle 9 rfl) ?_
    refine pw_iconst (v := (0 : Int32)) (aX9_shuffle 10 rfl) rfl ?_
    exact pw_iret (aX9_shuffle 11 rfl) hok4
  skip
  refine pw_case ((a1).toInt = 20) (fun b6 => ?_) (fun b6 => ?_)
  · have et : tg = 49 := by
      rcases ht with ⟨h8, -⟩ | ⟨-, -, off, ho, ht⟩; { exact absurd h8 (by omega) }; { rw [b6] at ho; have e9 : off = (48 : Int) := (Option.some.inj (show some (48 : Int) = some off from ho)).symm; omega }
    subst et
    refine pw_aloadn (aX9_shuffle 12 rfl) rfl ?_
    refine pw_aloadn (aX9_shuffle 13 rfl) rfl ?_
    refine pw_iconst (v := (1 : Int32)) (aX9_shuffle 14 rfl) rfl ?_
    refine pw_cf (pw_callV (Bs := [.int ((1 : Int32))]) (rest := [.ref (base + 49)]) (aX9_shuffle 15 rfl) um_RX9_201 ujX9_below wc_RX9_201.2.2.2.2 (by decide) (by decide) rfl rfl (fun d => rX9_belowI hkb ((1 : Int32)) n sl SH FI FL FR hok) (fun v6 n6 sl6 SH6 FI6 FL6 FR6 _ hC => ?_))
    obtain ⟨rfl, hC⟩ := hC; cases hC
    show pw _ _ _ _ _ _ _ 55 _ [.long (fX9_belowI ((1 : Int32)) SH FI FL FR), .ref (base + 49)] _ _
    refine pw_callV (Bs := [.long (fX9_belowI ((1 : Int32)) SH FI FL FR)]) (rest := []) (aX9_shuffle 16 rfl) um_RX9_158 ujX9_push wc_RX9_158.2.2.2.2 (by decide) (by decide) rfl rfl (fun d => rX9_pushI hkb (fX9_belowI ((1 : Int32)) SH FI FL FR) n sl SH FI FL FR hok) (fun v7 n7 sl7 SH7 FI7 FL7 FR7 hok7 _ => ?_)
    show pw _ _ _ _ _ _ _ 58 _ [.int (v7)] _ _
    exact pw_iret (aX9_shuffle 17 rfl) hok7
  skip
  refine pw_case ((a1).toInt = 21) (fun b9 => ?_) (fun b9 => ?_)
  · have et : tg = 59 := by
      rcases ht with ⟨h8, -⟩ | ⟨-, -, off, ho, ht⟩; { exact absurd h8 (by omega) }; { rw [b9] at ho; have e9 : off = (58 : Int) := (Option.some.inj (show some (58 : Int) = some off from ho)).symm; omega }
    subst et
    refine pw_aloadn (aX9_shuffle 18 rfl) rfl ?_
    refine pw_aloadn (aX9_shuffle 19 rfl) rfl ?_
    refine pw_aloadn (aX9_shuffle 20 rfl) rfl ?_
    refine pw_getr (v := .long (FL 49 12)) (aX9_shuffle 21 rfl) uf_RX9_96 un_RX9_96 rfl ?_
    refine pw_l2i (aX9_shuffle 22 rfl) ?_
    refine pw_cf (pw_callV (Bs := [.int ((FL 49 12).toInt32)]) (rest := [.ref (base + 49)]) (aX9_shuffle 23 rfl) um_RX9_201 ujX9_below wc_RX9_201.2.2.2.2 (by decide) (by decide) rfl rfl (fun d => rX9_belowI hkb ((FL 49 12).toInt32) n sl SH FI FL FR hok) (fun v9 n9 sl9 SH9 FI9 FL9 FR9 _ hC => ?_))
    obtain ⟨rfl, hC⟩ := hC; cases hC
    show pw _ _ _ _ _ _ _ 69 _ [.long (fX9_belowI ((FL 49 12).toInt32) SH FI FL FR), .ref (base + 49)] _ _
    refine pw_callV (Bs := [.long (fX9_belowI ((FL 49 12).toInt32) SH FI FL FR)]) (rest := []) (aX9_shuffle 24 rfl) um_RX9_158 ujX9_push wc_RX9_158.2.2.2.2 (by decide) (by decide) rfl rfl (fun d => rX9_pushI hkb (fX9_belowI ((FL 49 12).toInt32) SH FI FL FR) n sl SH FI FL FR hok) (fun v10 n10 sl10 SH10 FI10 FL10 FR10 hok10 _ => ?_)
    show pw _ _ _ _ _ _ _ 72 _ [.int (v10)] _ _
    exact pw_iret (aX9_shuffle 25 rfl) hok10
  skip
  have et : tg = 73 := by
    rcases ht with ⟨-, h8⟩ | ⟨h1, h2, -⟩; { omega }; { exfalso; omega }
  subst et
  refine pw_aloadn (aX9_shuffle 26 rfl) rfl ?_
  refine pw_callV (Bs := []) (rest := []) (aX9_shuffle 27 rfl) um_RX9_92 ujX9_pop wc_RX9_92.2.2.2.2 (by decide) (by decide) rfl rfl (fun d => rX9_popI hkb  n sl SH FI FL FR hok) (fun v11 n11 sl11 SH11 FI11 FL11 FR11 hok11 _ => ?_)
  show pw _ _ _ _ _ _ _ 77 _ [.long (v11)] _ _
  refine pw_lstoren (L2 := [(2, .long (v11)), (0, .ref (base + 49)), (1, .int (a1))]) (aX9_shuffle 28 rfl) rfl ?_
  refine pw_aloadn (aX9_shuffle 29 rfl) rfl ?_
  refine pw_callV (Bs := []) (rest := []) (aX9_shuffle 30 rfl) um_RX9_92 ujX9_pop wc_RX9_92.2.2.2.2 (by decide) (by decide) rfl rfl (fun d => rX9_popI hkb  n11 sl11 SH11 FI11 FL11 FR11 hok11) (fun v12 n12 sl12 SH12 FI12 FL12 FR12 hok12 _ => ?_)
  show pw _ _ _ _ _ _ _ 82 _ [.long (v12)] _ _
  refine pw_lstore (L2 := [(4, .long (v12)), (2, .long (v11)), (0, .ref (base + 49)), (1, .int (a1))]) (aX9_shuffle 31 rfl) rfl ?_
  refine pw_iloadn (aX9_shuffle 32 rfl) rfl ?_
  refine pw_bipush (v := (22 : Int32)) (aX9_shuffle 33 rfl) rfl ?_
  refine pw_icne (tgt := 103) (aX9_shuffle 34 rfl) (by decide) (fun b13 => ?_) (fun b13 => ?_)
  · skip
    refine pw_aloadn (aX9_shuffle 35 rfl) rfl ?_
    refine pw_lloadn (aX9_shuffle 36 rfl) rfl ?_
    refine pw_callV (Bs := [.long (v11)]) (rest := []) (aX9_shuffle 37 rfl) um_RX9_158 ujX9_push wc_RX9_158.2.2.2.2 (by decide) (by decide) rfl rfl (fun d => rX9_pushI hkb (v11) n12 sl12 SH12 FI12 FL12 FR12 hok12) (fun v14 n14 sl14 SH14 FI14 FL14 FR14 hok14 _ => ?_)
    show pw _ _ _ _ _ _ _ 95 _ [.int (v14)] _ _
    refine pw_pop (aX9_shuffle 38 rfl) ?_
    refine pw_aloadn (aX9_shuffle 39 rfl) rfl ?_
    refine pw_lload (aX9_shuffle 40 rfl) rfl ?_
    refine pw_callV (Bs := [.long (v12)]) (rest := []) (aX9_shuffle 41 rfl) um_RX9_158 ujX9_push wc_RX9_158.2.2.2.2 (by decide) (by decide) rfl rfl (fun d => rX9_pushI hkb (v12) n14 sl14 SH14 FI14 FL14 FR14 hok14) (fun v15 n15 sl15 SH15 FI15 FL15 FR15 hok15 _ => ?_)
    show pw _ _ _ _ _ _ _ 102 _ [.int (v15)] _ _
    exact pw_iret (aX9_shuffle 42 rfl) hok15
  · skip
    refine pw_aloadn (aX9_shuffle 43 rfl) rfl ?_
    refine pw_callV (Bs := []) (rest := []) (aX9_shuffle 44 rfl) um_RX9_92 ujX9_pop wc_RX9_92.2.2.2.2 (by decide) (by decide) rfl rfl (fun d => rX9_popI hkb  n12 sl12 SH12 FI12 FL12 FR12 hok12) (fun v16 n16 sl16 SH16 FI16 FL16 FR16 hok16 _ => ?_)
    show pw _ _ _ _ _ _ _ 107 _ [.long (v16)] _ _
    refine pw_lstore (L2 := [(6, .long (v16)), (4, .long (v12)), (2, .long (v11)), (0, .ref (base + 49)), (1, .int (a1))]) (aX9_shuffle 45 rfl) rfl ?_
    refine pw_aloadn (aX9_shuffle 46 rfl) rfl ?_
    refine pw_lloadn (aX9_shuffle 47 rfl) rfl ?_
    refine pw_callV (Bs := [.long (v11)]) (rest := []) (aX9_shuffle 48 rfl) um_RX9_158 ujX9_push wc_RX9_158.2.2.2.2 (by decide) (by decide) rfl rfl (fun d => rX9_pushI hkb (v11) n16 sl16 SH16 FI16 FL16 FR16 hok16) (fun v17 n17 sl17 SH17 FI17 FL17 FR17 hok17 _ => ?_)
    show pw _ _ _ _ _ _ _ 114 _ [.int (v17)] _ _
    refine pw_pop (aX9_shuffle 49 rfl) ?_
    refine pw_aloadn (aX9_shuffle 50 rfl) rfl ?_
    refine pw_lload (aX9_shuffle 51 rfl) rfl ?_
    refine pw_callV (Bs := [.long (v16)]) (rest := []) (aX9_shuffle 52 rfl) um_RX9_158 ujX9_push wc_RX9_158.2.2.2.2 (by decide) (by decide) rfl rfl (fun d => rX9_pushI hkb (v16) n17 sl17 SH17 FI17 FL17 FR17 hok17) (fun v18 n18 sl18 SH18 FI18 FL18 FR18 hok18 _ => ?_)
    show pw _ _ _ _ _ _ _ 121 _ [.int (v18)] _ _
    refine pw_pop (aX9_shuffle 53 rfl) ?_
    refine pw_aloadn (aX9_shuffle 54 rfl) rfl ?_
    refine pw_lload (aX9_shuffle 55 rfl) rfl ?_
    refine pw_callV (Bs := [.long (v12)]) (rest := []) (aX9_shuffle 56 rfl) um_RX9_158 ujX9_push wc_RX9_158.2.2.2.2 (by decide) (by decide) rfl rfl (fun d => rX9_pushI hkb (v12) n18 sl18 SH18 FI18 FL18 FR18 hok18) (fun v19 n19 sl19 SH19 FI19 FL19 FR19 hok19 _ => ?_)
    show pw _ _ _ _ _ _ _ 128 _ [.int (v19)] _ _
    exact pw_iret (aX9_shuffle 57 rfl) hok19
set_option maxHeartbeats 4000000 in
set_option maxRecDepth 100000 in
theorem rX9_changedI {sk : xK} {base N d : Nat} (hkb : x_kb sk base) (a1 : Int32) (a2 : Int64) (n sl : Nat) (SH : Nat → Nat × Nat) (FI : Nat → Nat → Int32) (FL : Nat → Nat → Int64) (FR : Nat → Nat → Option Nat) (hok : pk n SH FR)  : pw pj_J sk base N d none 104 0 [(0, .ref (base + 49)), (1, .int (a1)), (2, .long (a2))] [] (n, sl, SH, FI, FL, FR) (P_ret (fX9_changedI a1 a2 SH FI FL FR) (n, sl, SH, FI, FL, FR)) := by
  unfold fX9_changedI
  refine pw_iloadn (aX9_changed 0 rfl) rfl ?_
  refine pw_lsw aX9_changed_1 (fun tg ht => ?_)
  refine pw_ite (pw_case ((a1).toInt = 25) (fun b1 => ?_) (fun b1 => ?_))
  · have et : tg = 36 := by
      have e9 : Jvm.Op.lookupswitch.offset [(25, 35), (31, 48), (32, 51)] (57) (25) = 35 := (by decide); rw [b1, e9] at ht; omega
    subst et
    refine pw_lloadn (aX9_changed 1 rfl) rfl ?_
    refine pw_lconst (v := (0 : Int64)) (aX9_changed 2 rfl) rfl ?_
    refine pw_ite (pw_lcge (tgt := 47) (aX9_changed 3 rfl) (aX9_changed 4 rfl) (by decide) (fun b1 => ?_) (fun b1 => ?_))
    · skip
      refine pw_lloadn (aX9_changed 5 rfl) rfl ?_
      refine pw_lneg (aX9_changed 6 rfl) ?_
      refine pw_goto (tgt := 48) (aX9_changed 7 rfl) (by decide) ?_
      exact pw_lret (aX9_changed 9 rfl) hok
    · skip
      refine pw_lloadn (aX9_changed 8 rfl) rfl ?_
      exact pw_lret (aX9_changed 9 rfl) hok
  skip
  refine pw_ite (pw_case ((a1).toInt = 31) (fun b3 => ?_) (fun b3 => ?_))
  · have et : tg = 49 := by
      have e9 : Jvm.Op.lookupswitch.offset [(25, 35), (31, 48), (32, 51)] (57) (31) = 48 := (by decide); rw [b3, e9] at ht; omega
    subst et
    refine pw_lloadn (aX9_changed 10 rfl) rfl ?_
    refine pw_lneg (aX9_changed 11 rfl) ?_
    exact pw_lret (aX9_changed 12 rfl) hok
  skip
  refine pw_ite (pw_case ((a1).toInt = 32) (fun b4 => ?_) (fun b4 => ?_))
  · have et : tg = 52 := by
      have e9 : Jvm.Op.lookupswitch.offset [(25, 35), (31, 48), (32, 51)] (57) (32) = 51 := (by decide); rw [b4, e9] at ht; omega
    subst et
    refine pw_lloadn (aX9_changed 13 rfl) rfl ?_
    refine pw_ldc2 (v := (-1 : Int64)) (aX9_changed 14 rfl) uk_RX9_125 ?_
    refine pw_lxor (aX9_changed 15 rfl) ?_
    exact pw_lret (aX9_changed 16 rfl) hok
  skip
  have et : tg = 58 := by
    simp only [Jvm.Op.lookupswitch.offset] at ht; rw [if_neg (by omega), if_neg (by omega), if_neg (by omega)] at ht; omega
  subst et
  refine pw_lloadn (aX9_changed 17 rfl) rfl ?_
  refine pw_aloadn (aX9_changed 18 rfl) rfl ?_
  refine pw_getr (v := .long (FL 49 12)) (aX9_changed 19 rfl) uf_RX9_96 un_RX9_96 rfl ?_
  refine pw_ladd (aX9_changed 20 rfl) ?_
  exact pw_lret (aX9_changed 21 rfl) hok
set_option maxHeartbeats 4000000 in
set_option maxRecDepth 100000 in
theorem rX9_keepI {sk : xK} {base N d : Nat} (hkb : x_kb sk base) (a1 : Int32) (a2 : Option Nat) (n sl : Nat) (SH : Nat → Nat × Nat) (FI : Nat → Nat → Int32) (FL : Nat → Nat → Int64) (FR : Nat → Nat → Option Nat) (hok : pk n SH FR)  : pw pj_I sk base N d none 106 0 [(0, .ref (base + 49)), (1, .int (a1)), (2, va_rf (h_rf base (a2)))] [] (n, sl, SH, FI, FL, FR) (RX9_keepI a1 a2 n sl SH FI FL FR) := by
  unfold RX9_keepI
  refine pw_iloadn (aX9_keep 0 rfl) rfl ?_
  refine pw_sipush (v := (158 : Int32)) (aX9_keep 1 rfl) rfl ?_
  refine pw_icne (tgt := 28) (aX9_keep 2 rfl) (by decide) (fun b0 => ?_) (fun b0 => ?_)
  · skip
    refine pw_aloadn (aX9_keep 3 rfl) rfl ?_
    refine pw_getr (v := .ref (base + 51)) (aX9_keep 4 rfl) uf_RX9_18 un_RX9_18 (congrArg (fun r => va_rf (h_rf base r)) (q49_3 (hok).2.1)) ?_
    refine pw_aloadn (aX9_keep 5 rfl) rfl ?_
    refine pw_aloadn (aX9_keep 6 rfl) rfl ?_
    refine pw_getr (v := .long (FL 49 13)) (aX9_keep 7 rfl) uf_RX9_118 un_RX9_118 rfl ?_
    refine pw_l2i (aX9_keep 8 rfl) ?_
    refine pw_aloadn (aX9_keep 9 rfl) rfl ?_
    refine pw_getr (v := .long (FL 49 12)) (aX9_keep 10 rfl) uf_RX9_96 un_RX9_96 rfl ?_
    refine pw_l2i (aX9_keep 11 rfl) ?_
    refine pw_callV (Bs := [va_rf (h_rf base (a2)), .int ((FL 49 13).toInt32), .int ((FL 49 12).toInt32)]) (L2 := [(0, .ref (base + 51)), (1, va_rf (h_rf base (a2))), (2, .int ((FL 49 13).toInt32)), (3, .int ((FL 49 12).toInt32))]) (rest := []) (aX9_keep 12 rfl) um_RX9_234 ujX5_becomeBlock wc_RX9_234.2.2.2.2 (by decide) (by decide) rfl (by first | rfl | simp [lv_args, va_cat, va_ci, va_cl, va_cr, va_cn]) (fun d => rX5_becomeBlock hkb 51 (a2) ((FL 49 13).toInt32) ((FL 49 12).toInt32) n sl SH FI FL FR hok) (fun v1 n1 sl1 SH1 FI1 FL1 FR1 hok1 _ => ?_)
    show pw _ _ _ _ _ _ _ 25 _ [] _ _
    refine pw_goto (tgt := 40) (aX9_keep 13 rfl) (by decide) ?_
    refine pw_iconst (v := (0 : Int32)) (aX9_keep 20 rfl) rfl ?_
    exact pw_iret (aX9_keep 21 rfl) hok1
  · skip
    refine pw_aloadn (aX9_keep 14 rfl) rfl ?_
    refine pw_getr (v := .ref (base + 51)) (aX9_keep 15 rfl) uf_RX9_18 un_RX9_18 (congrArg (fun r => va_rf (h_rf base r)) (q49_3 (hok).2.1)) ?_
    refine pw_iconst (v := (3 : Int32)) (aX9_keep 16 rfl) rfl ?_
    refine pw_aloadn (aX9_keep 17 rfl) rfl ?_
    refine pw_callV (Bs := []) (rest := [.int ((3 : Int32)), .ref (base + 51)]) (aX9_keep 18 rfl) um_RX9_92 ujX9_pop wc_RX9_92.2.2.2.2 (by decide) (by decide) rfl rfl (fun d => rX9_popI hkb  n sl SH FI FL FR hok) (fun v2 n2 sl2 SH2 FI2 FL2 FR2 hok2 _ => ?_)
    show pw _ _ _ _ _ _ _ 37 _ [.long (v2), .int ((3 : Int32)), .ref (base + 51)] _ _
    refine pw_callV (Bs := [.int ((3 : Int32)), .long (v2)]) (rest := []) (aX9_keep 19 rfl) um_RX9_65 ujX5_become wc_RX9_65.2.2.2.2 (by decide) (by decide) rfl rfl (fun d => rX5_become hkb 51 ((3 : Int32)) (v2) n2 sl2 SH2 FI2 FL2 FR2 hok2) (fun v3 n3 sl3 SH3 FI3 FL3 FR3 hok3 _ => ?_)
    show pw _ _ _ _ _ _ _ 40 _ [] _ _
    refine pw_iconst (v := (0 : Int32)) (aX9_keep 20 rfl) rfl ?_
    exact pw_iret (aX9_keep 21 rfl) hok3
set_option maxHeartbeats 4000000 in
set_option maxRecDepth 100000 in
theorem rX9_holdTopI {sk : xK} {base N d : Nat} (hkb : x_kb sk base)  (n sl : Nat) (SH : Nat → Nat × Nat) (FI : Nat → Nat → Int32) (FL : Nat → Nat → Int64) (FR : Nat → Nat → Option Nat) (hok : pk n SH FR)  : pw pj_V sk base N d none 108 0 [(0, .ref (base + 49))] [] (n, sl, SH, FI, FL, FR) (RX9_holdTopI  n sl SH FI FL FR) := by
  unfold RX9_holdTopI
  refine pw_aloadn (aX9_holdTop 0 rfl) rfl ?_
  refine pw_getr (v := .ref (base + 51)) (aX9_holdTop 1 rfl) uf_RX9_18 un_RX9_18 (congrArg (fun r => va_rf (h_rf base r)) (q49_3 (hok).2.1)) ?_
  refine pw_getr (v := .int (FI 51 0)) (aX9_holdTop 2 rfl) uf_RX9_127 un_RX9_127 rfl ?_
  refine pw_ifne (tgt := 30) (aX9_holdTop 3 rfl) (by decide) (fun b0 => ?_) (fun b0 => ?_)
  · skip
    refine pw_aloadn (aX9_holdTop 4 rfl) rfl ?_
    refine pw_getr (v := .int (FI 49 5)) (aX9_holdTop 5 rfl) uf_RX9_62 un_RX9_62 rfl ?_
    refine pw_ifle (tgt := 30) (aX9_holdTop 6 rfl) (by decide) (fun b1 => ?_) (fun b1 => ?_)
    · skip
      refine pw_aloadn (aX9_holdTop 7 rfl) rfl ?_
      refine pw_getr (v := .ref (base + 51)) (aX9_holdTop 8 rfl) uf_RX9_18 un_RX9_18 (congrArg (fun r => va_rf (h_rf base r)) (q49_3 (hok).2.1)) ?_
      refine pw_iconst (v := (1 : Int32)) (aX9_holdTop 9 rfl) rfl ?_
      refine pw_aloadn (aX9_holdTop 10 rfl) rfl ?_
      refine pw_iconst (v := (0 : Int32)) (aX9_holdTop 11 rfl) rfl ?_
      refine pw_cf (pw_callV (Bs := [.int ((0 : Int32))]) (rest := [.int ((1 : Int32)), .ref (base + 51)]) (aX9_holdTop 12 rfl) um_RX9_201 ujX9_below wc_RX9_201.2.2.2.2 (by decide) (by decide) rfl rfl (fun d => rX9_belowI hkb ((0 : Int32)) n sl SH FI FL FR hok) (fun v2 n2 sl2 SH2 FI2 FL2 FR2 _ hC => ?_))
      obtain ⟨rfl, hC⟩ := hC; cases hC
      show pw _ _ _ _ _ _ _ 27 _ [.long (fX9_belowI ((0 : Int32)) SH FI FL FR), .int ((1 : Int32)), .ref (base + 51)] _ _
      refine pw_callV (Bs := [.int ((1 : Int32)), .long (fX9_belowI ((0 : Int32)) SH FI FL FR)]) (rest := []) (aX9_holdTop 13 rfl) um_RX9_65 ujX5_become wc_RX9_65.2.2.2.2 (by decide) (by decide) rfl rfl (fun d => rX5_become hkb 51 ((1 : Int32)) (fX9_belowI ((0 : Int32)) SH FI FL FR) n sl SH FI FL FR hok) (fun v3 n3 sl3 SH3 FI3 FL3 FR3 hok3 _ => ?_)
      show pw _ _ _ _ _ _ _ 30 _ [] _ _
      exact pw_vret (aX9_holdTop 14 rfl) hok3
    · skip
      exact pw_vret (aX9_holdTop 14 rfl) hok
  · skip
    exact pw_vret (aX9_holdTop 14 rfl) hok
set_option maxHeartbeats 4000000 in
set_option maxRecDepth 100000 in
theorem rX9_addPieceI {sk : xK} {base N d : Nat} (hkb : x_kb sk base) (a1 : Int32) (a2 : Int32) (n sl : Nat) (SH : Nat → Nat × Nat) (FI : Nat → Nat → Int32) (FL : Nat → Nat → Int64) (FR : Nat → Nat → Option Nat) (hok : pk n SH FR)  : pw pj_I sk base N d none 107 0 [(0, .ref (base + 49)), (1, .int (a1)), (2, .int (a2))] [] (n, sl, SH, FI, FL, FR) (RX9_addPieceI a1 a2 n sl SH FI FL FR) := by
  unfold RX9_addPieceI
  refine pw_aloadn (aX9_addPiece 0 rfl) rfl ?_
  refine pw_callV (Bs := []) (rest := []) (aX9_addPiece 1 rfl) um_RX9_238 ujX9_holdTop wc_RX9_238.2.2.2.2 (by decide) (by decide) rfl rfl (fun d => rX9_holdTopI hkb  n sl SH FI FL FR hok) (fun v0 n0 sl0 SH0 FI0 FL0 FR0 hok0 _ => ?_)
  show pw _ _ _ _ _ _ _ 4 _ [] _ _
  refine pw_aloadn (aX9_addPiece 2 rfl) rfl ?_
  refine pw_getr (v := .ref (base + 52)) (aX9_addPiece 3 rfl) uf_RX9_25 un_RX9_25 (congrArg (fun r => va_rf (h_rf base r)) (q49_4 (hok0).2.1)) ?_
  refine pw_aloadn (aX9_addPiece 4 rfl) rfl ?_
  refine pw_getr (v := .ref (base + 51)) (aX9_addPiece 5 rfl) uf_RX9_18 un_RX9_18 (congrArg (fun r => va_rf (h_rf base r)) (q49_3 (hok0).2.1)) ?_
  refine pw_iloadn (aX9_addPiece 6 rfl) rfl ?_
  refine pw_iloadn (aX9_addPiece 7 rfl) rfl ?_
  refine pw_callV (Bs := [.ref (base + 51), .int (a1), .int (a2)]) (rest := []) (aX9_addPiece 8 rfl) um_RX9_241 ujX8_addPiece wc_RX9_241.2.2.2.2 (by decide) (by decide) rfl rfl (fun d => rX8_addPiece hkb 52 (some 51) (a1) (a2) n0 sl0 SH0 FI0 FL0 FR0 hok0) (fun v1 n1 sl1 SH1 FI1 FL1 FR1 hok1 _ => ?_)
  show pw _ _ _ _ _ _ _ 17 _ [] _ _
  refine pw_aloadn (aX9_addPiece 9 rfl) rfl ?_
  refine pw_getr (v := .ref (base + 51)) (aX9_addPiece 10 rfl) uf_RX9_18 un_RX9_18 (congrArg (fun r => va_rf (h_rf base r)) (q49_3 (hok1).2.1)) ?_
  refine pw_iconst (v := (0 : Int32)) (aX9_addPiece 11 rfl) rfl ?_
  refine pw_lconst (v := (0 : Int64)) (aX9_addPiece 12 rfl) rfl ?_
  refine pw_callV (Bs := [.int ((0 : Int32)), .long ((0 : Int64))]) (rest := []) (aX9_addPiece 13 rfl) um_RX9_65 ujX5_become wc_RX9_65.2.2.2.2 (by decide) (by decide) rfl rfl (fun d => rX5_become hkb 51 ((0 : Int32)) ((0 : Int64)) n1 sl1 SH1 FI1 FL1 FR1 hok1) (fun v2 n2 sl2 SH2 FI2 FL2 FR2 hok2 _ => ?_)
  show pw _ _ _ _ _ _ _ 26 _ [] _ _
  refine pw_aloadn (aX9_addPiece 14 rfl) rfl ?_
  refine pw_iconst (v := (0 : Int32)) (aX9_addPiece 15 rfl) rfl ?_
  refine pw_putri (aX9_addPiece 16 rfl) uf_RX9_62 (fun _ _ _ => rfl) (fun t4 => ?_)
  refine pw_iconst (v := (0 : Int32)) (aX9_addPiece 17 rfl) rfl ?_
  exact pw_iret (aX9_addPiece 18 rfl) hok2
set_option maxHeartbeats 4000000 in
set_option maxRecDepth 100000 in
theorem rX9_settleI {sk : xK} {base N d : Nat} (hkb : x_kb sk base)  (n sl : Nat) (SH : Nat → Nat × Nat) (FI : Nat → Nat → Int32) (FL : Nat → Nat → Int64) (FR : Nat → Nat → Option Nat) (hok : pk n SH FR)  : pw pj_I sk base N d none 109 0 [(0, .ref (base + 49))] [] (n, sl, SH, FI, FL, FR) (RX9_settleI  n sl SH FI FL FR) := by
  unfold RX9_settleI
  refine pw_aloadn (aX9_settle 0 rfl) rfl ?_
  refine pw_getr (v := .ref (base + 52)) (aX9_settle 1 rfl) uf_RX9_25 un_RX9_25 (congrArg (fun r => va_rf (h_rf base r)) (q49_4 (hok).2.1)) ?_
  refine pw_getr (v := .int (FI 52 1)) (aX9_settle 2 rfl) uf_RX9_146 un_RX9_146 rfl ?_
  refine pw_ifle (tgt := 34) (aX9_settle 3 rfl) (by decide) (fun b0 => ?_) (fun b0 => ?_)
  · skip
    refine pw_aloadn (aX9_settle 4 rfl) rfl ?_
    refine pw_getr (v := .ref (base + 51)) (aX9_settle 5 rfl) uf_RX9_18 un_RX9_18 (congrArg (fun r => va_rf (h_rf base r)) (q49_3 (hok).2.1)) ?_
    refine pw_getr (v := .int (FI 51 0)) (aX9_settle 6 rfl) uf_RX9_127 un_RX9_127 rfl ?_
    refine pw_ifne (tgt := 27) (aX9_settle 7 rfl) (by decide) (fun b1 => ?_) (fun b1 => ?_)
    · skip
      refine pw_aloadn (aX9_settle 8 rfl) rfl ?_
      refine pw_getr (v := .int (FI 49 5)) (aX9_settle 9 rfl) uf_RX9_62 un_RX9_62 rfl ?_
      refine pw_ifle (tgt := 32) (aX9_settle 10 rfl) (by decide) (fun b2 => ?_) (fun b2 => ?_)
      · skip
        refine pw_bipush (v := (13 : Int32)) (aX9_settle 11 rfl) rfl ?_
        refine pw_goto (tgt := 33) (aX9_settle 12 rfl) (by decide) ?_
        exact pw_iret (aX9_settle 14 rfl) hok
      · skip
        refine pw_iconst (v := (0 : Int32)) (aX9_settle 13 rfl) rfl ?_
        exact pw_iret (aX9_settle 14 rfl) hok
    · skip
      refine pw_bipush (v := (13 : Int32)) (aX9_settle 11 rfl) rfl ?_
      refine pw_goto (tgt := 33) (aX9_settle 12 rfl) (by decide) ?_
      exact pw_iret (aX9_settle 14 rfl) hok
  · skip
    refine pw_aloadn (aX9_settle 15 rfl) rfl ?_
    refine pw_callV (Bs := []) (rest := []) (aX9_settle 16 rfl) um_RX9_238 ujX9_holdTop wc_RX9_238.2.2.2.2 (by decide) (by decide) rfl rfl (fun d => rX9_holdTopI hkb  n sl SH FI FL FR hok) (fun v3 n3 sl3 SH3 FI3 FL3 FR3 hok3 _ => ?_)
    show pw _ _ _ _ _ _ _ 38 _ [] _ _
    refine pw_aloadn (aX9_settle 17 rfl) rfl ?_
    refine pw_getr (v := .ref (base + 52)) (aX9_settle 18 rfl) uf_RX9_25 un_RX9_25 (congrArg (fun r => va_rf (h_rf base r)) (q49_4 (hok3).2.1)) ?_
    refine pw_callV (Bs := []) (rest := []) (aX9_settle 19 rfl) um_RX9_244 ujX8_only wc_RX9_244.2.2.2.2 (by decide) (by decide) rfl rfl (fun d => rX8_only hkb 52 n3 sl3 SH3 FI3 FL3 FR3 hok3) (fun v4 n4 sl4 SH4 FI4 FL4 FR4 hok4 _ => ?_)
    show pw _ _ _ _ _ _ _ 45 _ [va_rf (h_rf base (v4))] _ _
    refine pw_aloadn (aX9_settle 20 rfl) rfl ?_
    refine pw_getr (v := .ref (base + 51)) (aX9_settle 21 rfl) uf_RX9_18 un_RX9_18 (congrArg (fun r => va_rf (h_rf base r)) (q49_3 (hok4).2.1)) ?_
    refine pw_callVo (o := v4) (Bs := [.ref (base + 51)]) (rest := []) (aX9_settle 22 rfl) um_RX9_248 ujX5_take wc_RX9_248.2.2.2.2 (by decide) (by decide) rfl (fun _ => rfl) (fun c6 hc6 d => rX5_take hkb c6 (some 51) n4 sl4 SH4 FI4 FL4 FR4 hok4) (fun c6 hc6 v6 n6 sl6 SH6 FI6 FL6 FR6 hok6 _ => ?_)
    show pw _ _ _ _ _ _ _ 52 _ [] _ _
    refine pw_iconst (v := (0 : Int32)) (aX9_settle 23 rfl) rfl ?_
    exact pw_iret (aX9_settle 24 rfl) hok6
set_option maxHeartbeats 4000000 in
set_option maxRecDepth 100000 in
theorem rX9_takeBaseI {sk : xK} {base N d : Nat} (hkb : x_kb sk base) (a1 : Option Nat) (n sl : Nat) (SH : Nat → Nat × Nat) (FI : Nat → Nat → Int32) (FL : Nat → Nat → Int64) (FR : Nat → Nat → Option Nat) (hok : pk n SH FR)  : pw pj_I sk base N d none 111 0 [(0, .ref (base + 49)), (1, va_rf (h_rf base (a1)))] [] (n, sl, SH, FI, FL, FR) (RX9_takeBaseI a1 n sl SH FI FL FR) := by
  unfold RX9_takeBaseI
  refine pw_aloadn (aX9_takeBase 0 rfl) rfl ?_
  refine pw_callVo (o := a1) (Bs := []) (rest := []) (aX9_takeBase 1 rfl) um_RX9_244 ujX8_only wc_RX9_244.2.2.2.2 (by decide) (by decide) rfl (fun _ => rfl) (fun c1 hc1 d => rX8_only hkb c1 n sl SH FI FL FR hok) (fun c1 hc1 v1 n1 sl1 SH1 FI1 FL1 FR1 hok1 _ => ?_)
  show pw _ _ _ _ _ _ _ 4 _ [va_rf (h_rf base (v1))] _ _
  refine pw_astoren (L2 := [(2, va_rf (h_rf base (v1))), (0, .ref (base + 49)), (1, va_rf (h_rf base (a1)))]) (aX9_takeBase 2 rfl) (by first | rfl | (simp [x_s1, x_s2, va_cat, va_ci, va_cl, va_cr, va_cn]; done) | (simp [x_s1, x_s2, va_cat, va_ci, va_cl, va_cr, va_cn]; decide)) ?_
  refine pw_aloadn (aX9_takeBase 3 rfl) rfl ?_
  refine pw_get (o := a1) (v := fun c3 => .int (FI1 c3 1)) (aX9_takeBase 4 rfl) uf_RX9_146 un_RX9_146 (fun _ => rfl) (fun c3 hc3 _ tc3 => ?_)
  refine pw_ifgt (tgt := 27) (aX9_takeBase 5 rfl) (by decide) (fun b3 => ?_) (fun b3 => ?_)
  · skip
    refine pw_bipush (v := (11 : Int32)) (aX9_takeBase 13 rfl) rfl ?_
    exact pw_iret (aX9_takeBase 14 rfl) hok1
  · skip
    refine pw_aloadn (aX9_takeBase 6 rfl) rfl ?_
    refine pw_get (o := v1) (v := fun c5 => .int (FI1 c5 0)) (aX9_takeBase 7 rfl) uf_RX9_127 un_RX9_127 (fun _ => rfl) (fun c5 hc5 _ tc5 => ?_)
    refine pw_ifeq (tgt := 27) (aX9_takeBase 8 rfl) (by decide) (fun b5 => ?_) (fun b5 => ?_)
    · skip
      refine pw_bipush (v := (11 : Int32)) (aX9_takeBase 13 rfl) rfl ?_
      exact pw_iret (aX9_takeBase 14 rfl) hok1
    · skip
      refine pw_aloadn (aX9_takeBase 9 rfl) rfl ?_
      refine pw_get (o := v1) (v := fun c7 => .int (FI1 c7 0)) (aX9_takeBase 10 rfl) uf_RX9_127 un_RX9_127 (fun _ => rfl) (fun c7 hc7 _ tc7 => ?_)
      refine pw_iconst (v := (4 : Int32)) (aX9_takeBase 11 rfl) rfl ?_
      refine pw_icne (tgt := 30) (aX9_takeBase 12 rfl) (by decide) (fun b7 => ?_) (fun b7 => ?_)
      · skip
        refine pw_bipush (v := (11 : Int32)) (aX9_takeBase 13 rfl) rfl ?_
        exact pw_iret (aX9_takeBase 14 rfl) hok1
      · skip
        refine pw_aloadn (aX9_takeBase 15 rfl) rfl ?_
        refine pw_aloadn (aX9_takeBase 16 rfl) rfl ?_
        refine pw_get (o := v1) (v := fun c9 => .int (FI1 c9 0)) (aX9_takeBase 17 rfl) uf_RX9_127 un_RX9_127 (fun _ => rfl) (fun c9 hc9 _ tc9 => ?_)
        refine pw_iconst (v := (2 : Int32)) (aX9_takeBase 18 rfl) rfl ?_
        refine pw_icne (tgt := 53) (aX9_takeBase 19 rfl) (by decide) (fun b9 => ?_) (fun b9 => ?_)
        · skip
          refine pw_aloadn (aX9_takeBase 20 rfl) rfl ?_
          refine pw_getr (v := .ref (base + 23)) (aX9_takeBase 21 rfl) uf_RX9_29 un_RX9_29 (congrArg (fun r => va_rf (h_rf base r)) (q49_0 (hok1).2.1)) ?_
          refine pw_aloadn (aX9_takeBase 22 rfl) rfl ?_
          refine pw_get (o := v1) (v := fun c11 => .long (FL1 c11 1)) (aX9_takeBase 23 rfl) uf_RX9_259 un_RX9_259 (fun _ => rfl) (fun c11 hc11 _ tc11 => ?_)
          refine pw_cf (pw_callV (Bs := [.long (FL1 c11 1)]) (rest := [.ref (base + 49)]) (aX9_takeBase 24 rfl) um_RX9_162 ujX1_registerValue wc_RX9_162.2.2.2.2 (by decide) (by decide) rfl rfl (fun d => rX1_registerValue hkb (FL1 c11 1) n1 sl1 SH1 FI1 FL1 FR1 hok1) (fun v11 n11 sl11 SH11 FI11 FL11 FR11 _ hC => ?_))
          obtain ⟨rfl, hC⟩ := hC; cases hC
          show pw _ _ _ _ _ _ _ 50 _ [.long (fX1_registerValue (FL1 c11 1) SH1 FI1 FL1 FR1), .ref (base + 49)] _ _
          refine pw_goto (tgt := 57) (aX9_takeBase 25 rfl) (by decide) ?_
          refine pw_putrl (aX9_takeBase 28 rfl) uf_RX9_212 (fun _ _ _ => rfl) (fun t13 => ?_)
          refine pw_iconst (v := (0 : Int32)) (aX9_takeBase 29 rfl) rfl ?_
          exact pw_iret (aX9_takeBase 30 rfl) hok1
        · skip
          refine pw_aloadn (aX9_takeBase 26 rfl) rfl ?_
          refine pw_get (o := v1) (v := fun c14 => .long (FL1 c14 1)) (aX9_takeBase 27 rfl) uf_RX9_259 un_RX9_259 (fun _ => rfl) (fun c14 hc14 _ tc14 => ?_)
          refine pw_putrl (aX9_takeBase 28 rfl) uf_RX9_212 (fun _ _ _ => rfl) (fun t15 => ?_)
          refine pw_iconst (v := (0 : Int32)) (aX9_takeBase 29 rfl) rfl ?_
          exact pw_iret (aX9_takeBase 30 rfl) hok1
set_option maxHeartbeats 4000000 in
set_option maxRecDepth 100000 in
theorem rX9_baseI {sk : xK} {base N d : Nat} (hkb : x_kb sk base) (a1 : Int32) (a2 : Int32) (a3 : Int32) (n sl : Nat) (SH : Nat → Nat × Nat) (FI : Nat → Nat → Int32) (FL : Nat → Nat → Int64) (FR : Nat → Nat → Option Nat) (hok : pk n SH FR)  : pw pj_I sk base N d none 110 0 [(0, .ref (base + 49)), (1, .int (a1)), (2, .int (a2)), (3, .int (a3))] [] (n, sl, SH, FI, FL, FR) (RX9_baseI a1 a2 a3 n sl SH FI FL FR) := by
  unfold RX9_baseI
  refine pw_aloadn (aX9_base 0 rfl) rfl ?_
  refine pw_getr (v := .ref (base + 23)) (aX9_base 1 rfl) uf_RX9_29 un_RX9_29 (congrArg (fun r => va_rf (h_rf base r)) (q49_0 (hok).2.1)) ?_
  refine pw_getr (v := .int (FI 23 4)) (aX9_base 2 rfl) uf_RX9_252 un_RX9_252 rfl ?_
  refine pw_istore (L2 := [(4, .int (FI 23 4)), (0, .ref (base + 49)), (1, .int (a1)), (2, .int (a2)), (3, .int (a3))]) (aX9_base 3 rfl) rfl ?_
  refine pw_aloadn (aX9_base 4 rfl) rfl ?_
  refine pw_getr (v := va_rf (h_rf base (none))) (aX9_base 5 rfl) uf_RX9_33 un_RX9_33 (congrArg (fun r => va_rf (h_rf base r)) (hok).2.2) ?_
  refine pw_inull (o := none) (tgt := 34) (aX9_base 6 rfl) (by decide) (fun b0 => ?_) (fun b0 => ?_)
  · skip
    refine pw_bipush (v := (11 : Int32)) (aX9_base 15 rfl) rfl ?_
    exact pw_iret (aX9_base 16 rfl) hok
  · exact absurd rfl b0
set_option maxHeartbeats 4000000 in
set_option maxRecDepth 100000 in
theorem rX9_askI {sk : xK} {base N d : Nat} (hkb : x_kb sk base) (a1 : Int32) (a2 : Int32) (n sl : Nat) (SH : Nat → Nat × Nat) (FI : Nat → Nat → Int32) (FL : Nat → Nat → Int64) (FR : Nat → Nat → Option Nat) (hok : pk n SH FR)  : pw pj_I sk base N d none 105 0 [(0, .ref (base + 49)), (1, .int (a1)), (2, .int (a2))] [] (n, sl, SH, FI, FL, FR) (RX9_askI a1 a2 n sl SH FI FL FR) := by
  unfold RX9_askI
  refine pw_iloadn (aX9_ask 0 rfl) rfl ?_
  refine pw_lsw aX9_ask_1 (fun tg ht => ?_)
  refine pw_case ((a1).toInt = 6) (fun b1 => ?_) (fun b1 => ?_)
  · have et : tg = 76 := by
      have e9 : Jvm.Op.lookupswitch.offset [(6, 75), (144, 100), (145, 114), (146, 155), (148, 86), (151, 176), (155, 203), (156, 235)] (263) (6) = 75 := (by decide); rw [b1, e9] at ht; omega
    subst et
    refine pw_aloadn (aX9_ask 1 rfl) rfl ?_
    refine pw_aloadn (aX9_ask 2 rfl) rfl ?_
    refine pw_callV (Bs := []) (rest := [.ref (base + 49)]) (aX9_ask 3 rfl) um_RX9_92 ujX9_pop wc_RX9_92.2.2.2.2 (by decide) (by decide) rfl rfl (fun d => rX9_popI hkb  n sl SH FI FL FR hok) (fun v1 n1 sl1 SH1 FI1 FL1 FR1 hok1 _ => ?_)
    show pw _ _ _ _ _ _ _ 81 _ [.long (v1), .ref (base + 49)] _ _
    refine pw_bipush (v := (8 : Int32)) (aX9_ask 4 rfl) rfl ?_
    refine pw_callV (Bs := [.long (v1), .int ((8 : Int32))]) (rest := []) (aX9_ask 5 rfl) um_RX9_205 ujX9_pushBytes wc_RX9_205.2.2.2.2 (by decide) (by decide) rfl rfl (fun d => rX9_pushBytesI hkb (v1) ((8 : Int32)) n1 sl1 SH1 FI1 FL1 FR1 hok1) (fun v2 n2 sl2 SH2 FI2 FL2 FR2 hok2 _ => ?_)
    show pw _ _ _ _ _ _ _ 86 _ [.int (v2)] _ _
    exact pw_iret (aX9_ask 6 rfl) hok2
  skip
  refine pw_case ((a1).toInt = 144) (fun b4 => ?_) (fun b4 => ?_)
  · have et : tg = 101 := by
      have e9 : Jvm.Op.lookupswitch.offset [(6, 75), (144, 100), (145, 114), (146, 155), (148, 86), (151, 176), (155, 203), (156, 235)] (263) (144) = 100 := (by decide); rw [b4, e9] at ht; omega
    subst et
    refine pw_aloadn (aX9_ask 15 rfl) rfl ?_
    refine pw_getr (v := .ref (base + 51)) (aX9_ask 16 rfl) uf_RX9_18 un_RX9_18 (congrArg (fun r => va_rf (h_rf base r)) (q49_3 (hok).2.1)) ?_
    refine pw_iconst (v := (2 : Int32)) (aX9_ask 17 rfl) rfl ?_
    refine pw_aloadn (aX9_ask 18 rfl) rfl ?_
    refine pw_getr (v := .long (FL 49 12)) (aX9_ask 19 rfl) uf_RX9_96 un_RX9_96 rfl ?_
    refine pw_callV (Bs := [.int ((2 : Int32)), .long (FL 49 12)]) (rest := []) (aX9_ask 20 rfl) um_RX9_65 ujX5_become wc_RX9_65.2.2.2.2 (by decide) (by decide) rfl rfl (fun d => rX5_become hkb 51 ((2 : Int32)) (FL 49 12) n sl SH FI FL FR hok) (fun v4 n4 sl4 SH4 FI4 FL4 FR4 hok4 _ => ?_)
    show pw _ _ _ _ _ _ _ 113 _ [] _ _
    refine pw_iconst (v := (0 : Int32)) (aX9_ask 21 rfl) rfl ?_
    exact pw_iret (aX9_ask 22 rfl) hok4
  skip
  refine pw_case ((a1).toInt = 145) (fun b6 => ?_) (fun b6 => ?_)
  · have et : tg = 115 := by
      have e9 : Jvm.Op.lookupswitch.offset [(6, 75), (144, 100), (145, 114), (146, 155), (148, 86), (151, 176), (155, 203), (156, 235)] (263) (145) = 114 := (by decide); rw [b6, e9] at ht; omega
    subst et
    refine pw_aloadn (aX9_ask 23 rfl) rfl ?_
    refine pw_getr (v := .long (FL 49 12)) (aX9_ask 24 rfl) uf_RX9_96 un_RX9_96 rfl ?_
    refine pw_lstoren (L2 := [(3, .long (FL 49 12)), (0, .ref (base + 49)), (1, .int (a1)), (2, .int (a2))]) (aX9_ask 25 rfl) rfl ?_
    refine pw_aloadn (aX9_ask 26 rfl) rfl ?_
    refine pw_aloadn (aX9_ask 27 rfl) rfl ?_
    refine pw_getr (v := .int (FI 49 6)) (aX9_ask 28 rfl) uf_RX9_53 un_RX9_53 rfl ?_
    refine pw_aloadn (aX9_ask 29 rfl) rfl ?_
    refine pw_getr (v := .int (FI 49 7)) (aX9_ask 30 rfl) uf_RX9_56 un_RX9_56 rfl ?_
    refine pw_iloadn (aX9_ask 31 rfl) rfl ?_
    refine pw_callV (Bs := [.int (FI 49 6), .int (FI 49 7), .int (a2)]) (rest := []) (aX9_ask 32 rfl) um_RX9_208 ujX9_base wc_RX9_208.2.2.2.2 (by decide) (by decide) rfl rfl (fun d => rX9_baseI hkb (FI 49 6) (FI 49 7) (a2) n sl SH FI FL FR hok) (fun v6 n6 sl6 SH6 FI6 FL6 FR6 hok6 _ => ?_)
    show pw _ _ _ _ _ _ _ 133 _ [.int (v6)] _ _
    refine pw_istore (L2 := [(5, .int (v6)), (3, .long (FL 49 12)), (0, .ref (base + 49)), (1, .int (a1)), (2, .int (a2))]) (aX9_ask 33 rfl) rfl ?_
    refine pw_iload (aX9_ask 34 rfl) rfl ?_
    refine pw_ifne (tgt := 153) (aX9_ask 35 rfl) (by decide) (fun b7 => ?_) (fun b7 => ?_)
    · skip
      refine pw_aloadn (aX9_ask 36 rfl) rfl ?_
      refine pw_aloadn (aX9_ask 37 rfl) rfl ?_
      refine pw_getr (v := .long (FL6 49 15)) (aX9_ask 38 rfl) uf_RX9_212 un_RX9_212 rfl ?_
      refine pw_lloadn (aX9_ask 39 rfl) rfl ?_
      refine pw_ladd (aX9_ask 40 rfl) ?_
      refine pw_callV (Bs := [.long ((FL6 49 15) + (FL 49 12))]) (rest := []) (aX9_ask 41 rfl) um_RX9_158 ujX9_push wc_RX9_158.2.2.2.2 (by decide) (by decide) rfl rfl (fun d => rX9_pushI hkb ((FL6 49 15) + (FL 49 12)) n6 sl6 SH6 FI6 FL6 FR6 hok6) (fun v8 n8 sl8 SH8 FI8 FL8 FR8 hok8 _ => ?_)
      show pw _ _ _ _ _ _ _ 150 _ [.int (v8)] _ _
      refine pw_goto (tgt := 155) (aX9_ask 42 rfl) (by decide) ?_
      exact pw_iret (aX9_ask 44 rfl) hok8
    · skip
      refine pw_iload (aX9_ask 43 rfl) rfl ?_
      exact pw_iret (aX9_ask 44 rfl) hok6
  skip
  refine pw_case ((a1).toInt = 146) (fun b10 => ?_) (fun b10 => ?_)
  · have et : tg = 156 := by
      have e9 : Jvm.Op.lookupswitch.offset [(6, 75), (144, 100), (145, 114), (146, 155), (148, 86), (151, 176), (155, 203), (156, 235)] (263) (146) = 155 := (by decide); rw [b10, e9] at ht; omega
    subst et
    refine pw_aloadn (aX9_ask 45 rfl) rfl ?_
    refine pw_aloadn (aX9_ask 46 rfl) rfl ?_
    refine pw_getr (v := .ref (base + 23)) (aX9_ask 47 rfl) uf_RX9_29 un_RX9_29 (congrArg (fun r => va_rf (h_rf base r)) (q49_0 (hok).2.1)) ?_
    refine pw_aloadn (aX9_ask 48 rfl) rfl ?_
    refine pw_getr (v := .long (FL 49 12)) (aX9_ask 49 rfl) uf_RX9_96 un_RX9_96 rfl ?_
    refine pw_cf (pw_callV (Bs := [.long (FL 49 12)]) (rest := [.ref (base + 49)]) (aX9_ask 50 rfl) um_RX9_162 ujX1_registerValue wc_RX9_162.2.2.2.2 (by decide) (by decide) rfl rfl (fun d => rX1_registerValue hkb (FL 49 12) n sl SH FI FL FR hok) (fun v10 n10 sl10 SH10 FI10 FL10 FR10 _ hC => ?_))
    obtain ⟨rfl, hC⟩ := hC; cases hC
    show pw _ _ _ _ _ _ _ 168 _ [.long (fX1_registerValue (FL 49 12) SH FI FL FR), .ref (base + 49)] _ _
    refine pw_aloadn (aX9_ask 51 rfl) rfl ?_
    refine pw_getr (v := .long (FL 49 13)) (aX9_ask 52 rfl) uf_RX9_118 un_RX9_118 rfl ?_
    refine pw_ladd (aX9_ask 53 rfl) ?_
    refine pw_callV (Bs := [.long ((fX1_registerValue (FL 49 12) SH FI FL FR) + (FL 49 13))]) (rest := []) (aX9_ask 54 rfl) um_RX9_158 ujX9_push wc_RX9_158.2.2.2.2 (by decide) (by decide) rfl rfl (fun d => rX9_pushI hkb ((fX1_registerValue (FL 49 12) SH FI FL FR) + (FL 49 13)) n sl SH FI FL FR hok) (fun v11 n11 sl11 SH11 FI11 FL11 FR11 hok11 _ => ?_)
    show pw _ _ _ _ _ _ _ 176 _ [.int (v11)] _ _
    exact pw_iret (aX9_ask 55 rfl) hok11
  skip
  refine pw_case ((a1).toInt = 148) (fun b13 => ?_) (fun b13 => ?_)
  · have et : tg = 87 := by
      have e9 : Jvm.Op.lookupswitch.offset [(6, 75), (144, 100), (145, 114), (146, 155), (148, 86), (151, 176), (155, 203), (156, 235)] (263) (148) = 86 := (by decide); rw [b13, e9] at ht; omega
    subst et
    refine pw_aloadn (aX9_ask 7 rfl) rfl ?_
    refine pw_aloadn (aX9_ask 8 rfl) rfl ?_
    refine pw_callV (Bs := []) (rest := [.ref (base + 49)]) (aX9_ask 9 rfl) um_RX9_92 ujX9_pop wc_RX9_92.2.2.2.2 (by decide) (by decide) rfl rfl (fun d => rX9_popI hkb  n sl SH FI FL FR hok) (fun v13 n13 sl13 SH13 FI13 FL13 FR13 hok13 _ => ?_)
    show pw _ _ _ _ _ _ _ 92 _ [.long (v13), .ref (base + 49)] _ _
    refine pw_aloadn (aX9_ask 10 rfl) rfl ?_
    refine pw_getr (v := .long (FL13 49 12)) (aX9_ask 11 rfl) uf_RX9_96 un_RX9_96 rfl ?_
    refine pw_l2i (aX9_ask 12 rfl) ?_
    refine pw_callV (Bs := [.long (v13), .int ((FL13 49 12).toInt32)]) (rest := []) (aX9_ask 13 rfl) um_RX9_205 ujX9_pushBytes wc_RX9_205.2.2.2.2 (by decide) (by decide) rfl rfl (fun d => rX9_pushBytesI hkb (v13) ((FL13 49 12).toInt32) n13 sl13 SH13 FI13 FL13 FR13 hok13) (fun v14 n14 sl14 SH14 FI14 FL14 FR14 hok14 _ => ?_)
    show pw _ _ _ _ _ _ _ 100 _ [.int (v14)] _ _
    exact pw_iret (aX9_ask 14 rfl) hok14
  skip
  refine pw_case ((a1).toInt = 151) (fun b16 => ?_) (fun b16 => ?_)
  · have et : tg = 177 := by
      have e9 : Jvm.Op.lookupswitch.offset [(6, 75), (144, 100), (145, 114), (146, 155), (148, 86), (151, 176), (155, 203), (156, 235)] (263) (151) = 176 := (by decide); rw [b16, e9] at ht; omega
    subst et
    refine pw_aloadn (aX9_ask 56 rfl) rfl ?_
    refine pw_getr (v := .ref (base + 23)) (aX9_ask 57 rfl) uf_RX9_29 un_RX9_29 (congrArg (fun r => va_rf (h_rf base r)) (q49_0 (hok).2.1)) ?_
    refine pw_getr (v := .int (FI 23 7)) (aX9_ask 58 rfl) uf_RX9_215 un_RX9_215 rfl ?_
    refine pw_ifeq (tgt := 201) (aX9_ask 59 rfl) (by decide) (fun b16 => ?_) (fun b16 => ?_)
    · skip
      refine pw_bipush (v := (11 : Int32)) (aX9_ask 66 rfl) rfl ?_
      exact pw_iret (aX9_ask 67 rfl) hok
    · skip
      refine pw_aloadn (aX9_ask 60 rfl) rfl ?_
      refine pw_aloadn (aX9_ask 61 rfl) rfl ?_
      refine pw_getr (v := .ref (base + 23)) (aX9_ask 62 rfl) uf_RX9_29 un_RX9_29 (congrArg (fun r => va_rf (h_rf base r)) (q49_0 (hok).2.1)) ?_
      refine pw_getr (v := .long (FL 23 8)) (aX9_ask 63 rfl) uf_RX9_219 un_RX9_219 rfl ?_
      refine pw_callV (Bs := [.long (FL 23 8)]) (rest := []) (aX9_ask 64 rfl) um_RX9_158 ujX9_push wc_RX9_158.2.2.2.2 (by decide) (by decide) rfl rfl (fun d => rX9_pushI hkb (FL 23 8) n sl SH FI FL FR hok) (fun v17 n17 sl17 SH17 FI17 FL17 FR17 hok17 _ => ?_)
      show pw _ _ _ _ _ _ _ 198 _ [.int (v17)] _ _
      refine pw_goto (tgt := 203) (aX9_ask 65 rfl) (by decide) ?_
      exact pw_iret (aX9_ask 67 rfl) hok17
  skip
  refine pw_case ((a1).toInt = 155) (fun b19 => ?_) (fun b19 => ?_)
  · have et : tg = 204 := by
      have e9 : Jvm.Op.lookupswitch.offset [(6, 75), (144, 100), (145, 114), (146, 155), (148, 86), (151, 176), (155, 203), (156, 235)] (263) (155) = 203 := (by decide); rw [b19, e9] at ht; omega
    subst et
    refine pw_aloadn (aX9_ask 68 rfl) rfl ?_
    refine pw_getr (v := .ref (base + 23)) (aX9_ask 69 rfl) uf_RX9_29 un_RX9_29 (congrArg (fun r => va_rf (h_rf base r)) (q49_0 (hok).2.1)) ?_
    refine pw_getr (v := .int (FI 23 9)) (aX9_ask 70 rfl) uf_RX9_222 un_RX9_222 rfl ?_
    refine pw_ifeq (tgt := 233) (aX9_ask 71 rfl) (by decide) (fun b19 => ?_) (fun b19 => ?_)
    · skip
      refine pw_bipush (v := (11 : Int32)) (aX9_ask 81 rfl) rfl ?_
      exact pw_iret (aX9_ask 82 rfl) hok
    · skip
      refine pw_aloadn (aX9_ask 72 rfl) rfl ?_
      refine pw_aloadn (aX9_ask 73 rfl) rfl ?_
      refine pw_getr (v := .ref (base + 23)) (aX9_ask 74 rfl) uf_RX9_29 un_RX9_29 (congrArg (fun r => va_rf (h_rf base r)) (q49_0 (hok).2.1)) ?_
      refine pw_getr (v := .long (FL 23 10)) (aX9_ask 75 rfl) uf_RX9_225 un_RX9_225 rfl ?_
      refine pw_aloadn (aX9_ask 76 rfl) rfl ?_
      refine pw_callV (Bs := []) (rest := [.long (FL 23 10), .ref (base + 49)]) (aX9_ask 77 rfl) um_RX9_92 ujX9_pop wc_RX9_92.2.2.2.2 (by decide) (by decide) rfl rfl (fun d => rX9_popI hkb  n sl SH FI FL FR hok) (fun v20 n20 sl20 SH20 FI20 FL20 FR20 hok20 _ => ?_)
      show pw _ _ _ _ _ _ _ 226 _ [.long (v20), .long (FL 23 10), .ref (base + 49)] _ _
      refine pw_ladd (aX9_ask 78 rfl) ?_
      refine pw_callV (Bs := [.long ((FL 23 10) + (v20))]) (rest := []) (aX9_ask 79 rfl) um_RX9_158 ujX9_push wc_RX9_158.2.2.2.2 (by decide) (by decide) rfl rfl (fun d => rX9_pushI hkb ((FL 23 10) + (v20)) n20 sl20 SH20 FI20 FL20 FR20 hok20) (fun v21 n21 sl21 SH21 FI21 FL21 FR21 hok21 _ => ?_)
      show pw _ _ _ _ _ _ _ 230 _ [.int (v21)] _ _
      refine pw_goto (tgt := 235) (aX9_ask 80 rfl) (by decide) ?_
      exact pw_iret (aX9_ask 82 rfl) hok21
  skip
  refine pw_case ((a1).toInt = 156) (fun b23 => ?_) (fun b23 => ?_)
  · have et : tg = 236 := by
      have e9 : Jvm.Op.lookupswitch.offset [(6, 75), (144, 100), (145, 114), (146, 155), (148, 86), (151, 176), (155, 203), (156, 235)] (263) (156) = 235 := (by decide); rw [b23, e9] at ht; omega
    subst et
    refine pw_aloadn (aX9_ask 83 rfl) rfl ?_
    refine pw_getr (v := .ref (base + 23)) (aX9_ask 84 rfl) uf_RX9_29 un_RX9_29 (congrArg (fun r => va_rf (h_rf base r)) (q49_0 (hok).2.1)) ?_
    refine pw_getr (v := .int (FI 23 5)) (aX9_ask 85 rfl) uf_RX9_228 un_RX9_228 rfl ?_
    refine pw_iconst (v := (-1 : Int32)) (aX9_ask 86 rfl) rfl ?_
    refine pw_icne (tgt := 252) (aX9_ask 87 rfl) (by decide) (fun b23 => ?_) (fun b23 => ?_)
    · skip
      refine pw_bipush (v := (11 : Int32)) (aX9_ask 88 rfl) rfl ?_
      refine pw_goto (tgt := 263) (aX9_ask 89 rfl) (by decide) ?_
      exact pw_iret (aX9_ask 95 rfl) hok
    · skip
      refine pw_aloadn (aX9_ask 90 rfl) rfl ?_
      refine pw_aloadn (aX9_ask 91 rfl) rfl ?_
      refine pw_getr (v := .ref (base + 23)) (aX9_ask 92 rfl) uf_RX9_29 un_RX9_29 (congrArg (fun r => va_rf (h_rf base r)) (q49_0 (hok).2.1)) ?_
      refine pw_cf (pw_callV (Bs := []) (rest := [.ref (base + 49)]) (aX9_ask 93 rfl) um_RX9_231 ujX1_cfaValue wc_RX9_231.2.2.2.2 (by decide) (by decide) rfl rfl (fun d => rX1_cfaValue hkb  n sl SH FI FL FR hok) (fun v24 n24 sl24 SH24 FI24 FL24 FR24 _ hC => ?_))
      obtain ⟨rfl, hC⟩ := hC; cases hC
      show pw _ _ _ _ _ _ _ 260 _ [.long (fX1_cfaValue  SH FI FL FR), .ref (base + 49)] _ _
      refine pw_callV (Bs := [.long (fX1_cfaValue  SH FI FL FR)]) (rest := []) (aX9_ask 94 rfl) um_RX9_158 ujX9_push wc_RX9_158.2.2.2.2 (by decide) (by decide) rfl rfl (fun d => rX9_pushI hkb (fX1_cfaValue  SH FI FL FR) n sl SH FI FL FR hok) (fun v25 n25 sl25 SH25 FI25 FL25 FR25 hok25 _ => ?_)
      show pw _ _ _ _ _ _ _ 263 _ [.int (v25)] _ _
      exact pw_iret (aX9_ask 95 rfl) hok25
  skip
  have et : tg = 264 := by
    simp only [Jvm.Op.lookupswitch.offset] at ht; rw [if_neg (by omega), if_neg (by omega), if_neg (by omega), if_neg (by omega), if_neg (by omega), if_neg (by omega), if_neg (by omega), if_neg (by omega)] at ht; omega
  subst et
  refine pw_iconst (v := (0 : Int32)) (aX9_ask 96 rfl) rfl ?_
  exact pw_iret (aX9_ask 97 rfl) hok
set_option maxHeartbeats 4000000 in
set_option maxRecDepth 100000 in
theorem rX9_operateI_241 {sk : xK} {base N d : Nat}  (hkb : x_kb sk base) (a1 : Int32) (a2 : Option Nat) (a3 : Int32)   (n sl : Nat) (SH : Nat → Nat × Nat) (FI : Nat → Nat → Int32) (FL : Nat → Nat → Int64) (FR : Nat → Nat → Option Nat) (hok : pk n SH FR)   : pw pj_I sk base N d none 98 241 [(0, .ref (base + 49)), (1, .int (a1)), (2, va_rf (h_rf base (a2))), (3, .int (a3))] [] (n, sl, SH, FI, FL, FR) (RX9_operateI_241  a1 a2 a3  n sl SH FI FL FR) := by
  unfold RX9_operateI_241
  refine pw_iloadn (aX9_operate 129 rfl) rfl ?_
  refine pw_sipush (v := (147 : Int32)) (aX9_operate 130 rfl) rfl ?_
  refine pw_icne (tgt := 264) (aX9_operate 131 rfl) (by decide) (fun b0 => ?_) (fun b0 => ?_)
  · skip
    refine pw_aloadn (aX9_operate 132 rfl) rfl ?_
    refine pw_aloadn (aX9_operate 133 rfl) rfl ?_
    refine pw_getr (v := .long (FL 49 12)) (aX9_operate 134 rfl) uf_RX9_96 un_RX9_96 rfl ?_
    refine pw_l2i (aX9_operate 135 rfl) ?_
    refine pw_bipush (v := (8 : Int32)) (aX9_operate 136 rfl) rfl ?_
    refine pw_imul (aX9_operate 137 rfl) ?_
    refine pw_iconst (v := (0 : Int32)) (aX9_operate 138 rfl) rfl ?_
    refine pw_callV (Bs := [.int (((FL 49 12).toInt32) * ((8 : Int32))), .int ((0 : Int32))]) (rest := []) (aX9_operate 139 rfl) um_RX9_177 ujX9_addPiece wc_RX9_177.2.2.2.2 (by decide) (by decide) rfl rfl (fun d => rX9_addPieceI hkb (((FL 49 12).toInt32) * ((8 : Int32))) ((0 : Int32)) n sl SH FI FL FR hok) (fun v1 n1 sl1 SH1 FI1 FL1 FR1 hok1 _ => ?_)
    show pw _ _ _ _ _ _ _ 261 _ [.int (v1)] _ _
    refine pw_goto (tgt := 278) (aX9_operate 140 rfl) (by decide) ?_
    exact pw_iret (aX9_operate 149 rfl) hok1
  · skip
    refine pw_aloadn (aX9_operate 141 rfl) rfl ?_
    refine pw_aloadn (aX9_operate 142 rfl) rfl ?_
    refine pw_getr (v := .long (FL 49 12)) (aX9_operate 143 rfl) uf_RX9_96 un_RX9_96 rfl ?_
    refine pw_l2i (aX9_operate 144 rfl) ?_
    refine pw_aloadn (aX9_operate 145 rfl) rfl ?_
    refine pw_getr (v := .long (FL 49 13)) (aX9_operate 146 rfl) uf_RX9_118 un_RX9_118 rfl ?_
    refine pw_l2i (aX9_operate 147 rfl) ?_
    refine pw_callV (Bs := [.int ((FL 49 12).toInt32), .int ((FL 49 13).toInt32)]) (rest := []) (aX9_operate 148 rfl) um_RX9_177 ujX9_addPiece wc_RX9_177.2.2.2.2 (by decide) (by decide) rfl rfl (fun d => rX9_addPieceI hkb ((FL 49 12).toInt32) ((FL 49 13).toInt32) n sl SH FI FL FR hok) (fun v2 n2 sl2 SH2 FI2 FL2 FR2 hok2 _ => ?_)
    show pw _ _ _ _ _ _ _ 278 _ [.int (v2)] _ _
    exact pw_iret (aX9_operate 149 rfl) hok2
set_option maxHeartbeats 4000000 in
set_option maxRecDepth 100000 in
theorem rX9_operateI_227 {sk : xK} {base N d : Nat}  (hkb : x_kb sk base) (a1 : Int32) (a2 : Option Nat) (a3 : Int32)   (n sl : Nat) (SH : Nat → Nat × Nat) (FI : Nat → Nat → Int32) (FL : Nat → Nat → Int64) (FR : Nat → Nat → Option Nat) (hok : pk n SH FR)   : pw pj_I sk base N d none 98 227 [(0, .ref (base + 49)), (1, .int (a1)), (2, va_rf (h_rf base (a2))), (3, .int (a3))] [] (n, sl, SH, FI, FL, FR) (RX9_operateI_227  a1 a2 a3  n sl SH FI FL FR) := by
  unfold RX9_operateI_227
  refine pw_iloadn (aX9_operate 123 rfl) rfl ?_
  refine pw_sipush (v := (147 : Int32)) (aX9_operate 124 rfl) rfl ?_
  refine pw_iceq (tgt := 241) (aX9_operate 125 rfl) (by decide) (fun b0 => ?_) (fun b0 => ?_)
  · skip
    exact pw_Li (L2 := [(0, .ref (base + 49)), (1, .int (a1)), (2, va_rf (h_rf base (a2))), (3, .int (a3))]) [0, 1, 2, 3] (rX9_operateI_241 hkb a1 a2 a3  n sl SH FI FL FR hok  ) ⟨rfl, rfl, rfl, rfl, trivial⟩
  · skip
    refine pw_iloadn (aX9_operate 126 rfl) rfl ?_
    refine pw_sipush (v := (157 : Int32)) (aX9_operate 127 rfl) rfl ?_
    refine pw_icne (tgt := 279) (aX9_operate 128 rfl) (by decide) (fun b1 => ?_) (fun b1 => ?_)
    · skip
      exact pw_Li (L2 := [(0, .ref (base + 49)), (1, .int (a1)), (2, va_rf (h_rf base (a2))), (3, .int (a3))]) [0, 1, 2, 3] (rX9_operateI_241 hkb a1 a2 a3  n sl SH FI FL FR hok  ) ⟨rfl, rfl, rfl, rfl, trivial⟩
    · skip
      refine pw_iloadn (aX9_operate 150 rfl) rfl ?_
      refine pw_sipush (v := (158 : Int32)) (aX9_operate 151 rfl) rfl ?_
      refine pw_iceq (tgt := 293) (aX9_operate 152 rfl) (by decide) (fun b2 => ?_) (fun b2 => ?_)
      · skip
        refine pw_aloadn (aX9_operate 156 rfl) rfl ?_
        refine pw_iloadn (aX9_operate 157 rfl) rfl ?_
        refine pw_aloadn (aX9_operate 158 rfl) rfl ?_
        refine pw_callV (Bs := [.int (a1), va_rf (h_rf base (a2))]) (L2 := [(0, .ref (base + 49)), (1, .int (a1)), (2, va_rf (h_rf base (a2)))]) (rest := []) (aX9_operate 159 rfl) um_RX9_181 ujX9_keep wc_RX9_181.2.2.2.2 (by decide) (by decide) rfl (by first | rfl | simp [lv_args, va_cat, va_ci, va_cl, va_cr, va_cn]) (fun d => rX9_keepI hkb (a1) (a2) n sl SH FI FL FR hok) (fun v3 n3 sl3 SH3 FI3 FL3 FR3 hok3 _ => ?_)
        show pw _ _ _ _ _ _ _ 299 _ [.int (v3)] _ _
        refine pw_goto (tgt := 308) (aX9_operate 160 rfl) (by decide) ?_
        exact pw_iret (aX9_operate 165 rfl) hok3
      · skip
        refine pw_iloadn (aX9_operate 153 rfl) rfl ?_
        refine pw_sipush (v := (159 : Int32)) (aX9_operate 154 rfl) rfl ?_
        refine pw_icne (tgt := 302) (aX9_operate 155 rfl) (by decide) (fun b4 => ?_) (fun b4 => ?_)
        · skip
          refine pw_aloadn (aX9_operate 156 rfl) rfl ?_
          refine pw_iloadn (aX9_operate 157 rfl) rfl ?_
          refine pw_aloadn (aX9_operate 158 rfl) rfl ?_
          refine pw_callV (Bs := [.int (a1), va_rf (h_rf base (a2))]) (L2 := [(0, .ref (base + 49)), (1, .int (a1)), (2, va_rf (h_rf base (a2)))]) (rest := []) (aX9_operate 159 rfl) um_RX9_181 ujX9_keep wc_RX9_181.2.2.2.2 (by decide) (by decide) rfl (by first | rfl | simp [lv_args, va_cat, va_ci, va_cl, va_cr, va_cn]) (fun d => rX9_keepI hkb (a1) (a2) n sl SH FI FL FR hok) (fun v5 n5 sl5 SH5 FI5 FL5 FR5 hok5 _ => ?_)
          show pw _ _ _ _ _ _ _ 299 _ [.int (v5)] _ _
          refine pw_goto (tgt := 308) (aX9_operate 160 rfl) (by decide) ?_
          exact pw_iret (aX9_operate 165 rfl) hok5
        · skip
          refine pw_aloadn (aX9_operate 161 rfl) rfl ?_
          refine pw_iloadn (aX9_operate 162 rfl) rfl ?_
          refine pw_iloadn (aX9_operate 163 rfl) rfl ?_
          refine pw_callV (Bs := [.int (a1), .int (a3)]) (rest := []) (aX9_operate 164 rfl) um_RX9_185 ujX9_ask wc_RX9_185.2.2.2.2 (by decide) (by decide) rfl rfl (fun d => rX9_askI hkb (a1) (a3) n sl SH FI FL FR hok) (fun v6 n6 sl6 SH6 FI6 FL6 FR6 hok6 _ => ?_)
          show pw _ _ _ _ _ _ _ 308 _ [.int (v6)] _ _
          exact pw_iret (aX9_operate 165 rfl) hok6
set_option maxHeartbeats 4000000 in
set_option maxRecDepth 100000 in
theorem rX9_operateI_202 {sk : xK} {base N d : Nat}  (hkb : x_kb sk base) (a1 : Int32) (a2 : Option Nat) (a3 : Int32) (l4l : Int64) (l6l : Int64)  (n sl : Nat) (SH : Nat → Nat × Nat) (FI : Nat → Nat → Int32) (FL : Nat → Nat → Int64) (FR : Nat → Nat → Option Nat) (hok : pk n SH FR)   : pw pj_I sk base N d none 98 202 [(0, .ref (base + 49)), (1, .int (a1)), (2, va_rf (h_rf base (a2))), (3, .int (a3)), (4, .long (l4l)), (6, .long (l6l))] [] (n, sl, SH, FI, FL, FR) (RX9_operateI_202  a1 a2 a3 l4l l6l n sl SH FI FL FR) := by
  unfold RX9_operateI_202
  refine pw_lload (aX9_operate 110 rfl) rfl ?_
  refine pw_lconst (v := (0 : Int64)) (aX9_operate 111 rfl) rfl ?_
  refine pw_lcne (tgt := 214) (aX9_operate 112 rfl) (aX9_operate 113 rfl) (by decide) (fun b0 => ?_) (fun b0 => ?_)
  · skip
    refine pw_bipush (v := (6 : Int32)) (aX9_operate 114 rfl) rfl ?_
    refine pw_goto (tgt := 226) (aX9_operate 115 rfl) (by decide) ?_
    exact pw_iret (aX9_operate 122 rfl) hok
  · skip
    refine pw_aloadn (aX9_operate 116 rfl) rfl ?_
    refine pw_iloadn (aX9_operate 117 rfl) rfl ?_
    refine pw_lload (aX9_operate 118 rfl) rfl ?_
    refine pw_lload (aX9_operate 119 rfl) rfl ?_
    refine pw_cf (pw_callS (As := [.int (a1), .long (l6l), .long (l4l)]) (rest := [.ref (base + 49)]) (aX9_operate 120 rfl) um_RX9_173 ujX9_joined wc_RX9_173.2.2.2.2 (by decide) rfl rfl (fun d => rX9_joined hkb (a1) (l6l) (l4l) n sl SH FI FL FR hok) (fun v1 n1 sl1 SH1 FI1 FL1 FR1 _ hC => ?_))
    obtain ⟨rfl, hC⟩ := hC; cases hC
    show pw _ _ _ _ _ _ _ 223 _ [.long (fX9_joined (a1) (l6l) (l4l) SH FI FL FR), .ref (base + 49)] _ _
    refine pw_callV (Bs := [.long (fX9_joined (a1) (l6l) (l4l) SH FI FL FR)]) (rest := []) (aX9_operate 121 rfl) um_RX9_158 ujX9_push wc_RX9_158.2.2.2.2 (by decide) (by decide) rfl rfl (fun d => rX9_pushI hkb (fX9_joined (a1) (l6l) (l4l) SH FI FL FR) n sl SH FI FL FR hok) (fun v2 n2 sl2 SH2 FI2 FL2 FR2 hok2 _ => ?_)
    show pw _ _ _ _ _ _ _ 226 _ [.int (v2)] _ _
    exact pw_iret (aX9_operate 122 rfl) hok2
set_option maxHeartbeats 4000000 in
set_option maxRecDepth 100000 in
theorem rX9_operateI_128 {sk : xK} {base N d : Nat}  (hkb : x_kb sk base) (a1 : Int32) (a2 : Option Nat) (a3 : Int32)   (n sl : Nat) (SH : Nat → Nat × Nat) (FI : Nat → Nat → Int32) (FL : Nat → Nat → Int64) (FR : Nat → Nat → Option Nat) (hok : pk n SH FR)   : pw pj_I sk base N d none 98 128 [(0, .ref (base + 49)), (1, .int (a1)), (2, va_rf (h_rf base (a2))), (3, .int (a3))] [] (n, sl, SH, FI, FL, FR) (RX9_operateI_128  a1 a2 a3  n sl SH FI FL FR) := by
  unfold RX9_operateI_128
  refine pw_iloadn (aX9_operate 72 rfl) rfl ?_
  refine pw_bipush (v := (25 : Int32)) (aX9_operate 73 rfl) rfl ?_
  refine pw_iceq (tgt := 152) (aX9_operate 74 rfl) (by decide) (fun b0 => ?_) (fun b0 => ?_)
  · skip
    refine pw_aloadn (aX9_operate 84 rfl) rfl ?_
    refine pw_aloadn (aX9_operate 85 rfl) rfl ?_
    refine pw_iloadn (aX9_operate 86 rfl) rfl ?_
    refine pw_aloadn (aX9_operate 87 rfl) rfl ?_
    refine pw_callV (Bs := []) (rest := [.int (a1), .ref (base + 49), .ref (base + 49)]) (aX9_operate 88 rfl) um_RX9_92 ujX9_pop wc_RX9_92.2.2.2.2 (by decide) (by decide) rfl rfl (fun d => rX9_popI hkb  n sl SH FI FL FR hok) (fun v1 n1 sl1 SH1 FI1 FL1 FR1 hok1 _ => ?_)
    show pw _ _ _ _ _ _ _ 159 _ [.long (v1), .int (a1), .ref (base + 49), .ref (base + 49)] _ _
    refine pw_cf (pw_callV (Bs := [.int (a1), .long (v1)]) (rest := [.ref (base + 49)]) (aX9_operate 89 rfl) um_RX9_169 ujX9_changed wc_RX9_169.2.2.2.2 (by decide) (by decide) rfl rfl (fun d => rX9_changedI hkb (a1) (v1) n1 sl1 SH1 FI1 FL1 FR1 hok1) (fun v2 n2 sl2 SH2 FI2 FL2 FR2 _ hC => ?_))
    obtain ⟨rfl, hC⟩ := hC; cases hC
    show pw _ _ _ _ _ _ _ 162 _ [.long (fX9_changedI (a1) (v1) SH1 FI1 FL1 FR1), .ref (base + 49)] _ _
    refine pw_callV (Bs := [.long (fX9_changedI (a1) (v1) SH1 FI1 FL1 FR1)]) (rest := []) (aX9_operate 90 rfl) um_RX9_158 ujX9_push wc_RX9_158.2.2.2.2 (by decide) (by decide) rfl rfl (fun d => rX9_pushI hkb (fX9_changedI (a1) (v1) SH1 FI1 FL1 FR1) n1 sl1 SH1 FI1 FL1 FR1 hok1) (fun v3 n3 sl3 SH3 FI3 FL3 FR3 hok3 _ => ?_)
    show pw _ _ _ _ _ _ _ 165 _ [.int (v3)] _ _
    exact pw_iret (aX9_operate 91 rfl) hok3
  · skip
    refine pw_iloadn (aX9_operate 75 rfl) rfl ?_
    refine pw_bipush (v := (31 : Int32)) (aX9_operate 76 rfl) rfl ?_
    refine pw_iceq (tgt := 152) (aX9_operate 77 rfl) (by decide) (fun b4 => ?_) (fun b4 => ?_)
    · skip
      refine pw_aloadn (aX9_operate 84 rfl) rfl ?_
      refine pw_aloadn (aX9_operate 85 rfl) rfl ?_
      refine pw_iloadn (aX9_operate 86 rfl) rfl ?_
      refine pw_aloadn (aX9_operate 87 rfl) rfl ?_
      refine pw_callV (Bs := []) (rest := [.int (a1), .ref (base + 49), .ref (base + 49)]) (aX9_operate 88 rfl) um_RX9_92 ujX9_pop wc_RX9_92.2.2.2.2 (by decide) (by decide) rfl rfl (fun d => rX9_popI hkb  n sl SH FI FL FR hok) (fun v5 n5 sl5 SH5 FI5 FL5 FR5 hok5 _ => ?_)
      show pw _ _ _ _ _ _ _ 159 _ [.long (v5), .int (a1), .ref (base + 49), .ref (base + 49)] _ _
      refine pw_cf (pw_callV (Bs := [.int (a1), .long (v5)]) (rest := [.ref (base + 49)]) (aX9_operate 89 rfl) um_RX9_169 ujX9_changed wc_RX9_169.2.2.2.2 (by decide) (by decide) rfl rfl (fun d => rX9_changedI hkb (a1) (v5) n5 sl5 SH5 FI5 FL5 FR5 hok5) (fun v6 n6 sl6 SH6 FI6 FL6 FR6 _ hC => ?_))
      obtain ⟨rfl, hC⟩ := hC; cases hC
      show pw _ _ _ _ _ _ _ 162 _ [.long (fX9_changedI (a1) (v5) SH5 FI5 FL5 FR5), .ref (base + 49)] _ _
      refine pw_callV (Bs := [.long (fX9_changedI (a1) (v5) SH5 FI5 FL5 FR5)]) (rest := []) (aX9_operate 90 rfl) um_RX9_158 ujX9_push wc_RX9_158.2.2.2.2 (by decide) (by decide) rfl rfl (fun d => rX9_pushI hkb (fX9_changedI (a1) (v5) SH5 FI5 FL5 FR5) n5 sl5 SH5 FI5 FL5 FR5 hok5) (fun v7 n7 sl7 SH7 FI7 FL7 FR7 hok7 _ => ?_)
      show pw _ _ _ _ _ _ _ 165 _ [.int (v7)] _ _
      exact pw_iret (aX9_operate 91 rfl) hok7
    · skip
      refine pw_iloadn (aX9_operate 78 rfl) rfl ?_
      refine pw_bipush (v := (32 : Int32)) (aX9_operate 79 rfl) rfl ?_
      refine pw_iceq (tgt := 152) (aX9_operate 80 rfl) (by decide) (fun b8 => ?_) (fun b8 => ?_)
      · skip
        refine pw_aloadn (aX9_operate 84 rfl) rfl ?_
        refine pw_aloadn (aX9_operate 85 rfl) rfl ?_
        refine pw_iloadn (aX9_operate 86 rfl) rfl ?_
        refine pw_aloadn (aX9_operate 87 rfl) rfl ?_
        refine pw_callV (Bs := []) (rest := [.int (a1), .ref (base + 49), .ref (base + 49)]) (aX9_operate 88 rfl) um_RX9_92 ujX9_pop wc_RX9_92.2.2.2.2 (by decide) (by decide) rfl rfl (fun d => rX9_popI hkb  n sl SH FI FL FR hok) (fun v9 n9 sl9 SH9 FI9 FL9 FR9 hok9 _ => ?_)
        show pw _ _ _ _ _ _ _ 159 _ [.long (v9), .int (a1), .ref (base + 49), .ref (base + 49)] _ _
        refine pw_cf (pw_callV (Bs := [.int (a1), .long (v9)]) (rest := [.ref (base + 49)]) (aX9_operate 89 rfl) um_RX9_169 ujX9_changed wc_RX9_169.2.2.2.2 (by decide) (by decide) rfl rfl (fun d => rX9_changedI hkb (a1) (v9) n9 sl9 SH9 FI9 FL9 FR9 hok9) (fun v10 n10 sl10 SH10 FI10 FL10 FR10 _ hC => ?_))
        obtain ⟨rfl, hC⟩ := hC; cases hC
        show pw _ _ _ _ _ _ _ 162 _ [.long (fX9_changedI (a1) (v9) SH9 FI9 FL9 FR9), .ref (base + 49)] _ _
        refine pw_callV (Bs := [.long (fX9_changedI (a1) (v9) SH9 FI9 FL9 FR9)]) (rest := []) (aX9_operate 90 rfl) um_RX9_158 ujX9_push wc_RX9_158.2.2.2.2 (by decide) (by decide) rfl rfl (fun d => rX9_pushI hkb (fX9_changedI (a1) (v9) SH9 FI9 FL9 FR9) n9 sl9 SH9 FI9 FL9 FR9 hok9) (fun v11 n11 sl11 SH11 FI11 FL11 FR11 hok11 _ => ?_)
        show pw _ _ _ _ _ _ _ 165 _ [.int (v11)] _ _
        exact pw_iret (aX9_operate 91 rfl) hok11
      · skip
        refine pw_iloadn (aX9_operate 81 rfl) rfl ?_
        refine pw_bipush (v := (35 : Int32)) (aX9_operate 82 rfl) rfl ?_
        refine pw_icne (tgt := 166) (aX9_operate 83 rfl) (by decide) (fun b12 => ?_) (fun b12 => ?_)
        · skip
          refine pw_aloadn (aX9_operate 84 rfl) rfl ?_
          refine pw_aloadn (aX9_operate 85 rfl) rfl ?_
          refine pw_iloadn (aX9_operate 86 rfl) rfl ?_
          refine pw_aloadn (aX9_operate 87 rfl) rfl ?_
          refine pw_callV (Bs := []) (rest := [.int (a1), .ref (base + 49), .ref (base + 49)]) (aX9_operate 88 rfl) um_RX9_92 ujX9_pop wc_RX9_92.2.2.2.2 (by decide) (by decide) rfl rfl (fun d => rX9_popI hkb  n sl SH FI FL FR hok) (fun v13 n13 sl13 SH13 FI13 FL13 FR13 hok13 _ => ?_)
          show pw _ _ _ _ _ _ _ 159 _ [.long (v13), .int (a1), .ref (base + 49), .ref (base + 49)] _ _
          refine pw_cf (pw_callV (Bs := [.int (a1), .long (v13)]) (rest := [.ref (base + 49)]) (aX9_operate 89 rfl) um_RX9_169 ujX9_changed wc_RX9_169.2.2.2.2 (by decide) (by decide) rfl rfl (fun d => rX9_changedI hkb (a1) (v13) n13 sl13 SH13 FI13 FL13 FR13 hok13) (fun v14 n14 sl14 SH14 FI14 FL14 FR14 _ hC => ?_))
          obtain ⟨rfl, hC⟩ := hC; cases hC
          show pw _ _ _ _ _ _ _ 162 _ [.long (fX9_changedI (a1) (v13) SH13 FI13 FL13 FR13), .ref (base + 49)] _ _
          refine pw_callV (Bs := [.long (fX9_changedI (a1) (v13) SH13 FI13 FL13 FR13)]) (rest := []) (aX9_operate 90 rfl) um_RX9_158 ujX9_push wc_RX9_158.2.2.2.2 (by decide) (by decide) rfl rfl (fun d => rX9_pushI hkb (fX9_changedI (a1) (v13) SH13 FI13 FL13 FR13) n13 sl13 SH13 FI13 FL13 FR13 hok13) (fun v15 n15 sl15 SH15 FI15 FL15 FR15 hok15 _ => ?_)
          show pw _ _ _ _ _ _ _ 165 _ [.int (v15)] _ _
          exact pw_iret (aX9_operate 91 rfl) hok15
        · skip
          refine pw_iloadn (aX9_operate 92 rfl) rfl ?_
          refine pw_bipush (v := (26 : Int32)) (aX9_operate 93 rfl) rfl ?_
          refine pw_iclt (tgt := 227) (aX9_operate 94 rfl) (by decide) (fun b16 => ?_) (fun b16 => ?_)
          · skip
            exact pw_Li (L2 := [(0, .ref (base + 49)), (1, .int (a1)), (2, va_rf (h_rf base (a2))), (3, .int (a3))]) [0, 1, 2, 3] (rX9_operateI_227 hkb a1 a2 a3  n sl SH FI FL FR hok  ) ⟨rfl, rfl, rfl, rfl, trivial⟩
          · skip
            refine pw_iloadn (aX9_operate 95 rfl) rfl ?_
            refine pw_bipush (v := (46 : Int32)) (aX9_operate 96 rfl) rfl ?_
            refine pw_icgt (tgt := 227) (aX9_operate 97 rfl) (by decide) (fun b17 => ?_) (fun b17 => ?_)
            · skip
              exact pw_Li (L2 := [(0, .ref (base + 49)), (1, .int (a1)), (2, va_rf (h_rf base (a2))), (3, .int (a3))]) [0, 1, 2, 3] (rX9_operateI_227 hkb a1 a2 a3  n sl SH FI FL FR hok  ) ⟨rfl, rfl, rfl, rfl, trivial⟩
            · skip
              refine pw_aloadn (aX9_operate 98 rfl) rfl ?_
              refine pw_callV (Bs := []) (rest := []) (aX9_operate 99 rfl) um_RX9_92 ujX9_pop wc_RX9_92.2.2.2.2 (by decide) (by decide) rfl rfl (fun d => rX9_popI hkb  n sl SH FI FL FR hok) (fun v18 n18 sl18 SH18 FI18 FL18 FR18 hok18 _ => ?_)
              show pw _ _ _ _ _ _ _ 182 _ [.long (v18)] _ _
              refine pw_lstore (L2 := [(4, .long (v18)), (0, .ref (base + 49)), (1, .int (a1)), (2, va_rf (h_rf base (a2))), (3, .int (a3))]) (aX9_operate 100 rfl) (by first | rfl | (simp [x_s1, x_s2, va_cat, va_ci, va_cl, va_cr, va_cn]; done) | (simp [x_s1, x_s2, va_cat, va_ci, va_cl, va_cr, va_cn]; decide)) ?_
              refine pw_aloadn (aX9_operate 101 rfl) rfl ?_
              refine pw_callV (Bs := []) (rest := []) (aX9_operate 102 rfl) um_RX9_92 ujX9_pop wc_RX9_92.2.2.2.2 (by decide) (by decide) rfl rfl (fun d => rX9_popI hkb  n18 sl18 SH18 FI18 FL18 FR18 hok18) (fun v19 n19 sl19 SH19 FI19 FL19 FR19 hok19 _ => ?_)
              show pw _ _ _ _ _ _ _ 188 _ [.long (v19)] _ _
              refine pw_lstore (L2 := [(6, .long (v19)), (4, .long (v18)), (0, .ref (base + 49)), (1, .int (a1)), (2, va_rf (h_rf base (a2))), (3, .int (a3))]) (aX9_operate 103 rfl) (by first | rfl | (simp [x_s1, x_s2, va_cat, va_ci, va_cl, va_cr, va_cn]; done) | (simp [x_s1, x_s2, va_cat, va_ci, va_cl, va_cr, va_cn]; decide)) ?_
              refine pw_iloadn (aX9_operate 104 rfl) rfl ?_
              refine pw_bipush (v := (27 : Int32)) (aX9_operate 105 rfl) rfl ?_
              refine pw_iceq (tgt := 202) (aX9_operate 106 rfl) (by decide) (fun b20 => ?_) (fun b20 => ?_)
              · skip
                exact pw_Li (L2 := [(0, .ref (base + 49)), (1, .int (a1)), (2, va_rf (h_rf base (a2))), (3, .int (a3)), (4, .long (v18)), (6, .long (v19))]) [5, 4, 0, 1, 2, 3] (rX9_operateI_202 hkb a1 a2 a3 (v18) (v19) n19 sl19 SH19 FI19 FL19 FR19 hok19  ) ⟨rfl, rfl, rfl, rfl, rfl, rfl, trivial⟩
              · skip
                refine pw_iloadn (aX9_operate 107 rfl) rfl ?_
                refine pw_bipush (v := (29 : Int32)) (aX9_operate 108 rfl) rfl ?_
                refine pw_icne (tgt := 214) (aX9_operate 109 rfl) (by decide) (fun b21 => ?_) (fun b21 => ?_)
                · skip
                  exact pw_Li (L2 := [(0, .ref (base + 49)), (1, .int (a1)), (2, va_rf (h_rf base (a2))), (3, .int (a3)), (4, .long (v18)), (6, .long (v19))]) [5, 4, 0, 1, 2, 3] (rX9_operateI_202 hkb a1 a2 a3 (v18) (v19) n19 sl19 SH19 FI19 FL19 FR19 hok19  ) ⟨rfl, rfl, rfl, rfl, rfl, rfl, trivial⟩
                · skip
                  refine pw_aloadn (aX9_operate 116 rfl) rfl ?_
                  refine pw_iloadn (aX9_operate 117 rfl) rfl ?_
                  refine pw_lload (aX9_operate 118 rfl) rfl ?_
                  refine pw_lload (aX9_operate 119 rfl) rfl ?_
                  refine pw_cf (pw_callS (As := [.int (a1), .long (v19), .long (v18)]) (rest := [.ref (base + 49)]) (aX9_operate 120 rfl) um_RX9_173 ujX9_joined wc_RX9_173.2.2.2.2 (by decide) rfl rfl (fun d => rX9_joined hkb (a1) (v19) (v18) n19 sl19 SH19 FI19 FL19 FR19 hok19) (fun v22 n22 sl22 SH22 FI22 FL22 FR22 _ hC => ?_))
                  obtain ⟨rfl, hC⟩ := hC; cases hC
                  show pw _ _ _ _ _ _ _ 223 _ [.long (fX9_joined (a1) (v19) (v18) SH19 FI19 FL19 FR19), .ref (base + 49)] _ _
                  refine pw_callV (Bs := [.long (fX9_joined (a1) (v19) (v18) SH19 FI19 FL19 FR19)]) (rest := []) (aX9_operate 121 rfl) um_RX9_158 ujX9_push wc_RX9_158.2.2.2.2 (by decide) (by decide) rfl rfl (fun d => rX9_pushI hkb (fX9_joined (a1) (v19) (v18) SH19 FI19 FL19 FR19) n19 sl19 SH19 FI19 FL19 FR19 hok19) (fun v23 n23 sl23 SH23 FI23 FL23 FR23 hok23 _ => ?_)
                  show pw _ _ _ _ _ _ _ 226 _ [.int (v23)] _ _
                  exact pw_iret (aX9_operate 122 rfl) hok23
set_option maxHeartbeats 4000000 in
set_option maxRecDepth 100000 in
theorem rX9_operateI_110 {sk : xK} {base N d : Nat}  (hkb : x_kb sk base) (a1 : Int32) (a2 : Option Nat) (a3 : Int32)   (n sl : Nat) (SH : Nat → Nat × Nat) (FI : Nat → Nat → Int32) (FL : Nat → Nat → Int64) (FR : Nat → Nat → Option Nat) (hok : pk n SH FR)   : pw pj_I sk base N d none 98 110 [(0, .ref (base + 49)), (1, .int (a1)), (2, va_rf (h_rf base (a2))), (3, .int (a3))] [] (n, sl, SH, FI, FL, FR) (RX9_operateI_110  a1 a2 a3  n sl SH FI FL FR) := by
  unfold RX9_operateI_110
  refine pw_iloadn (aX9_operate 62 rfl) rfl ?_
  refine pw_bipush (v := (18 : Int32)) (aX9_operate 63 rfl) rfl ?_
  refine pw_iclt (tgt := 128) (aX9_operate 64 rfl) (by decide) (fun b0 => ?_) (fun b0 => ?_)
  · skip
    exact pw_Li (L2 := [(0, .ref (base + 49)), (1, .int (a1)), (2, va_rf (h_rf base (a2))), (3, .int (a3))]) [0, 1, 2, 3] (rX9_operateI_128 hkb a1 a2 a3  n sl SH FI FL FR hok  ) ⟨rfl, rfl, rfl, rfl, trivial⟩
  · skip
    refine pw_iloadn (aX9_operate 65 rfl) rfl ?_
    refine pw_bipush (v := (23 : Int32)) (aX9_operate 66 rfl) rfl ?_
    refine pw_icgt (tgt := 128) (aX9_operate 67 rfl) (by decide) (fun b1 => ?_) (fun b1 => ?_)
    · skip
      exact pw_Li (L2 := [(0, .ref (base + 49)), (1, .int (a1)), (2, va_rf (h_rf base (a2))), (3, .int (a3))]) [0, 1, 2, 3] (rX9_operateI_128 hkb a1 a2 a3  n sl SH FI FL FR hok  ) ⟨rfl, rfl, rfl, rfl, trivial⟩
    · skip
      refine pw_aloadn (aX9_operate 68 rfl) rfl ?_
      refine pw_iloadn (aX9_operate 69 rfl) rfl ?_
      refine pw_callV (Bs := [.int (a1)]) (rest := []) (aX9_operate 70 rfl) um_RX9_166 ujX9_shuffle wc_RX9_166.2.2.2.2 (by decide) (by decide) rfl rfl (fun d => rX9_shuffleI hkb (a1) n sl SH FI FL FR hok) (fun v2 n2 sl2 SH2 FI2 FL2 FR2 hok2 _ => ?_)
      show pw _ _ _ _ _ _ _ 127 _ [.int (v2)] _ _
      exact pw_iret (aX9_operate 71 rfl) hok2
set_option maxHeartbeats 4000000 in
set_option maxRecDepth 100000 in
theorem rX9_operateI_84 {sk : xK} {base N d : Nat}  (hkb : x_kb sk base) (a1 : Int32) (a2 : Option Nat) (a3 : Int32)   (n sl : Nat) (SH : Nat → Nat × Nat) (FI : Nat → Nat → Int32) (FL : Nat → Nat → Int64) (FR : Nat → Nat → Option Nat) (hok : pk n SH FR)   : pw pj_I sk base N d none 98 84 [(0, .ref (base + 49)), (1, .int (a1)), (2, va_rf (h_rf base (a2))), (3, .int (a3))] [] (n, sl, SH, FI, FL, FR) (RX9_operateI_84  a1 a2 a3  n sl SH FI FL FR) := by
  unfold RX9_operateI_84
  refine pw_iloadn (aX9_operate 48 rfl) rfl ?_
  refine pw_iconst (v := (3 : Int32)) (aX9_operate 49 rfl) rfl ?_
  refine pw_iceq (tgt := 101) (aX9_operate 50 rfl) (by decide) (fun b0 => ?_) (fun b0 => ?_)
  · skip
    refine pw_aloadn (aX9_operate 57 rfl) rfl ?_
    refine pw_aloadn (aX9_operate 58 rfl) rfl ?_
    refine pw_getr (v := .long (FL 49 12)) (aX9_operate 59 rfl) uf_RX9_96 un_RX9_96 rfl ?_
    refine pw_callV (Bs := [.long (FL 49 12)]) (rest := []) (aX9_operate 60 rfl) um_RX9_158 ujX9_push wc_RX9_158.2.2.2.2 (by decide) (by decide) rfl rfl (fun d => rX9_pushI hkb (FL 49 12) n sl SH FI FL FR hok) (fun v1 n1 sl1 SH1 FI1 FL1 FR1 hok1 _ => ?_)
    show pw _ _ _ _ _ _ _ 109 _ [.int (v1)] _ _
    exact pw_iret (aX9_operate 61 rfl) hok1
  · skip
    refine pw_iloadn (aX9_operate 51 rfl) rfl ?_
    refine pw_bipush (v := (8 : Int32)) (aX9_operate 52 rfl) rfl ?_
    refine pw_iclt (tgt := 110) (aX9_operate 53 rfl) (by decide) (fun b2 => ?_) (fun b2 => ?_)
    · skip
      exact pw_Li (L2 := [(0, .ref (base + 49)), (1, .int (a1)), (2, va_rf (h_rf base (a2))), (3, .int (a3))]) [0, 1, 2, 3] (rX9_operateI_110 hkb a1 a2 a3  n sl SH FI FL FR hok  ) ⟨rfl, rfl, rfl, rfl, trivial⟩
    · skip
      refine pw_iloadn (aX9_operate 54 rfl) rfl ?_
      refine pw_bipush (v := (17 : Int32)) (aX9_operate 55 rfl) rfl ?_
      refine pw_icgt (tgt := 110) (aX9_operate 56 rfl) (by decide) (fun b3 => ?_) (fun b3 => ?_)
      · skip
        exact pw_Li (L2 := [(0, .ref (base + 49)), (1, .int (a1)), (2, va_rf (h_rf base (a2))), (3, .int (a3))]) [0, 1, 2, 3] (rX9_operateI_110 hkb a1 a2 a3  n sl SH FI FL FR hok  ) ⟨rfl, rfl, rfl, rfl, trivial⟩
      · skip
        refine pw_aloadn (aX9_operate 57 rfl) rfl ?_
        refine pw_aloadn (aX9_operate 58 rfl) rfl ?_
        refine pw_getr (v := .long (FL 49 12)) (aX9_operate 59 rfl) uf_RX9_96 un_RX9_96 rfl ?_
        refine pw_callV (Bs := [.long (FL 49 12)]) (rest := []) (aX9_operate 60 rfl) um_RX9_158 ujX9_push wc_RX9_158.2.2.2.2 (by decide) (by decide) rfl rfl (fun d => rX9_pushI hkb (FL 49 12) n sl SH FI FL FR hok) (fun v4 n4 sl4 SH4 FI4 FL4 FR4 hok4 _ => ?_)
        show pw _ _ _ _ _ _ _ 109 _ [.int (v4)] _ _
        exact pw_iret (aX9_operate 61 rfl) hok4
set_option maxHeartbeats 4000000 in
set_option maxRecDepth 100000 in
theorem rX9_operateI_49 {sk : xK} {base N d : Nat}  (hkb : x_kb sk base) (a1 : Int32) (a2 : Option Nat) (a3 : Int32)   (n sl : Nat) (SH : Nat → Nat × Nat) (FI : Nat → Nat → Int32) (FL : Nat → Nat → Int64) (FR : Nat → Nat → Option Nat) (hok : pk n SH FR)   : pw pj_I sk base N d none 98 49 [(0, .ref (base + 49)), (1, .int (a1)), (2, va_rf (h_rf base (a2))), (3, .int (a3))] [] (n, sl, SH, FI, FL, FR) (RX9_operateI_49  a1 a2 a3  n sl SH FI FL FR) := by
  unfold RX9_operateI_49
  refine pw_iloadn (aX9_operate 29 rfl) rfl ?_
  refine pw_bipush (v := (112 : Int32)) (aX9_operate 30 rfl) rfl ?_
  refine pw_iclt (tgt := 84) (aX9_operate 31 rfl) (by decide) (fun b0 => ?_) (fun b0 => ?_)
  · skip
    exact pw_Li (L2 := [(0, .ref (base + 49)), (1, .int (a1)), (2, va_rf (h_rf base (a2))), (3, .int (a3))]) [0, 1, 2, 3] (rX9_operateI_84 hkb a1 a2 a3  n sl SH FI FL FR hok  ) ⟨rfl, rfl, rfl, rfl, trivial⟩
  · skip
    refine pw_iloadn (aX9_operate 32 rfl) rfl ?_
    refine pw_sipush (v := (143 : Int32)) (aX9_operate 33 rfl) rfl ?_
    refine pw_icgt (tgt := 84) (aX9_operate 34 rfl) (by decide) (fun b1 => ?_) (fun b1 => ?_)
    · skip
      exact pw_Li (L2 := [(0, .ref (base + 49)), (1, .int (a1)), (2, va_rf (h_rf base (a2))), (3, .int (a3))]) [0, 1, 2, 3] (rX9_operateI_84 hkb a1 a2 a3  n sl SH FI FL FR hok  ) ⟨rfl, rfl, rfl, rfl, trivial⟩
    · skip
      refine pw_aloadn (aX9_operate 35 rfl) rfl ?_
      refine pw_aloadn (aX9_operate 36 rfl) rfl ?_
      refine pw_getr (v := .ref (base + 23)) (aX9_operate 37 rfl) uf_RX9_29 un_RX9_29 (congrArg (fun r => va_rf (h_rf base r)) (q49_0 (hok).2.1)) ?_
      refine pw_iloadn (aX9_operate 38 rfl) rfl ?_
      refine pw_bipush (v := (112 : Int32)) (aX9_operate 39 rfl) rfl ?_
      refine pw_isub (aX9_operate 40 rfl) ?_
      refine pw_i2l (aX9_operate 41 rfl) ?_
      refine pw_cf (pw_callV (Bs := [.long (((a1) - ((112 : Int32))).toInt64)]) (rest := [.ref (base + 49)]) (aX9_operate 42 rfl) um_RX9_162 ujX1_registerValue wc_RX9_162.2.2.2.2 (by decide) (by decide) rfl rfl (fun d => rX1_registerValue hkb (((a1) - ((112 : Int32))).toInt64) n sl SH FI FL FR hok) (fun v2 n2 sl2 SH2 FI2 FL2 FR2 _ hC => ?_))
      obtain ⟨rfl, hC⟩ := hC; cases hC
      show pw _ _ _ _ _ _ _ 75 _ [.long (fX1_registerValue (((a1) - ((112 : Int32))).toInt64) SH FI FL FR), .ref (base + 49)] _ _
      refine pw_aloadn (aX9_operate 43 rfl) rfl ?_
      refine pw_getr (v := .long (FL 49 12)) (aX9_operate 44 rfl) uf_RX9_96 un_RX9_96 rfl ?_
      refine pw_ladd (aX9_operate 45 rfl) ?_
      refine pw_callV (Bs := [.long ((fX1_registerValue (((a1) - ((112 : Int32))).toInt64) SH FI FL FR) + (FL 49 12))]) (rest := []) (aX9_operate 46 rfl) um_RX9_158 ujX9_push wc_RX9_158.2.2.2.2 (by decide) (by decide) rfl rfl (fun d => rX9_pushI hkb ((fX1_registerValue (((a1) - ((112 : Int32))).toInt64) SH FI FL FR) + (FL 49 12)) n sl SH FI FL FR hok) (fun v3 n3 sl3 SH3 FI3 FL3 FR3 hok3 _ => ?_)
      show pw _ _ _ _ _ _ _ 83 _ [.int (v3)] _ _
      exact pw_iret (aX9_operate 47 rfl) hok3
set_option maxHeartbeats 4000000 in
set_option maxRecDepth 100000 in
theorem rX9_operateI_22 {sk : xK} {base N d : Nat}  (hkb : x_kb sk base) (a1 : Int32) (a2 : Option Nat) (a3 : Int32)   (n sl : Nat) (SH : Nat → Nat × Nat) (FI : Nat → Nat → Int32) (FL : Nat → Nat → Int64) (FR : Nat → Nat → Option Nat) (hok : pk n SH FR)   : pw pj_I sk base N d none 98 22 [(0, .ref (base + 49)), (1, .int (a1)), (2, va_rf (h_rf base (a2))), (3, .int (a3))] [] (n, sl, SH, FI, FL, FR) (RX9_operateI_22  a1 a2 a3  n sl SH FI FL FR) := by
  unfold RX9_operateI_22
  refine pw_iloadn (aX9_operate 13 rfl) rfl ?_
  refine pw_bipush (v := (80 : Int32)) (aX9_operate 14 rfl) rfl ?_
  refine pw_iclt (tgt := 49) (aX9_operate 15 rfl) (by decide) (fun b0 => ?_) (fun b0 => ?_)
  · skip
    exact pw_Li (L2 := [(0, .ref (base + 49)), (1, .int (a1)), (2, va_rf (h_rf base (a2))), (3, .int (a3))]) [0, 1, 2, 3] (rX9_operateI_49 hkb a1 a2 a3  n sl SH FI FL FR hok  ) ⟨rfl, rfl, rfl, rfl, trivial⟩
  · skip
    refine pw_iloadn (aX9_operate 16 rfl) rfl ?_
    refine pw_bipush (v := (111 : Int32)) (aX9_operate 17 rfl) rfl ?_
    refine pw_icgt (tgt := 49) (aX9_operate 18 rfl) (by decide) (fun b1 => ?_) (fun b1 => ?_)
    · skip
      exact pw_Li (L2 := [(0, .ref (base + 49)), (1, .int (a1)), (2, va_rf (h_rf base (a2))), (3, .int (a3))]) [0, 1, 2, 3] (rX9_operateI_49 hkb a1 a2 a3  n sl SH FI FL FR hok  ) ⟨rfl, rfl, rfl, rfl, trivial⟩
    · skip
      refine pw_aloadn (aX9_operate 19 rfl) rfl ?_
      refine pw_getr (v := .ref (base + 51)) (aX9_operate 20 rfl) uf_RX9_18 un_RX9_18 (congrArg (fun r => va_rf (h_rf base r)) (q49_3 (hok).2.1)) ?_
      refine pw_iconst (v := (2 : Int32)) (aX9_operate 21 rfl) rfl ?_
      refine pw_iloadn (aX9_operate 22 rfl) rfl ?_
      refine pw_bipush (v := (80 : Int32)) (aX9_operate 23 rfl) rfl ?_
      refine pw_isub (aX9_operate 24 rfl) ?_
      refine pw_i2l (aX9_operate 25 rfl) ?_
      refine pw_callV (Bs := [.int ((2 : Int32)), .long (((a1) - ((80 : Int32))).toInt64)]) (rest := []) (aX9_operate 26 rfl) um_RX9_65 ujX5_become wc_RX9_65.2.2.2.2 (by decide) (by decide) rfl rfl (fun d => rX5_become hkb 51 ((2 : Int32)) (((a1) - ((80 : Int32))).toInt64) n sl SH FI FL FR hok) (fun v2 n2 sl2 SH2 FI2 FL2 FR2 hok2 _ => ?_)
      show pw _ _ _ _ _ _ _ 47 _ [] _ _
      refine pw_iconst (v := (0 : Int32)) (aX9_operate 27 rfl) rfl ?_
      exact pw_iret (aX9_operate 28 rfl) hok2
set_option maxHeartbeats 4000000 in
set_option maxRecDepth 100000 in
theorem rX9_operateI {sk : xK} {base N d : Nat} (hkb : x_kb sk base) (a1 : Int32) (a2 : Option Nat) (a3 : Int32) (n sl : Nat) (SH : Nat → Nat × Nat) (FI : Nat → Nat → Int32) (FL : Nat → Nat → Int64) (FR : Nat → Nat → Option Nat) (hok : pk n SH FR)  : pw pj_I sk base N d none 98 0 [(0, .ref (base + 49)), (1, .int (a1)), (2, va_rf (h_rf base (a2))), (3, .int (a3))] [] (n, sl, SH, FI, FL, FR) (RX9_operateI a1 a2 a3 n sl SH FI FL FR) := by
  unfold RX9_operateI
  refine pw_iloadn (aX9_operate 0 rfl) rfl ?_
  refine pw_bipush (v := (48 : Int32)) (aX9_operate 1 rfl) rfl ?_
  refine pw_iclt (tgt := 22) (aX9_operate 2 rfl) (by decide) (fun b0 => ?_) (fun b0 => ?_)
  · skip
    exact pw_Li (L2 := [(0, .ref (base + 49)), (1, .int (a1)), (2, va_rf (h_rf base (a2))), (3, .int (a3))]) [0, 1, 2, 3] (rX9_operateI_22 hkb a1 a2 a3  n sl SH FI FL FR hok  ) ⟨rfl, rfl, rfl, rfl, trivial⟩
  · skip
    refine pw_iloadn (aX9_operate 3 rfl) rfl ?_
    refine pw_bipush (v := (79 : Int32)) (aX9_operate 4 rfl) rfl ?_
    refine pw_icgt (tgt := 22) (aX9_operate 5 rfl) (by decide) (fun b1 => ?_) (fun b1 => ?_)
    · skip
      exact pw_Li (L2 := [(0, .ref (base + 49)), (1, .int (a1)), (2, va_rf (h_rf base (a2))), (3, .int (a3))]) [0, 1, 2, 3] (rX9_operateI_22 hkb a1 a2 a3  n sl SH FI FL FR hok  ) ⟨rfl, rfl, rfl, rfl, trivial⟩
    · skip
      refine pw_aloadn (aX9_operate 6 rfl) rfl ?_
      refine pw_iloadn (aX9_operate 7 rfl) rfl ?_
      refine pw_bipush (v := (48 : Int32)) (aX9_operate 8 rfl) rfl ?_
      refine pw_isub (aX9_operate 9 rfl) ?_
      refine pw_i2l (aX9_operate 10 rfl) ?_
      refine pw_callV (Bs := [.long (((a1) - ((48 : Int32))).toInt64)]) (rest := []) (aX9_operate 11 rfl) um_RX9_158 ujX9_push wc_RX9_158.2.2.2.2 (by decide) (by decide) rfl rfl (fun d => rX9_pushI hkb (((a1) - ((48 : Int32))).toInt64) n sl SH FI FL FR hok) (fun v2 n2 sl2 SH2 FI2 FL2 FR2 hok2 _ => ?_)
      show pw _ _ _ _ _ _ _ 21 _ [.int (v2)] _ _
      exact pw_iret (aX9_operate 12 rfl) hok2
set_option maxHeartbeats 4000000 in
set_option maxRecDepth 100000 in
theorem rX9_performI_69 {sk : xK} {base N d : Nat} {K6 : Int32 → Int32 → Nat → Nat → (Nat → Nat × Nat) → (Nat → Nat → Int32) → (Nat → Nat → Int64) → (Nat → Nat → Option Nat) → Int32 → hS → Prop} (hkb : x_kb sk base) (MX9_performI : Option Nat → Int32 → Int32 → Int32 → Nat → Nat → (Nat → Nat × Nat) → (Nat → Nat → Int32) → (Nat → Nat → Int64) → (Nat → Nat → Option Nat) → Int32 → hS → Prop) (MX9_stepI : Option Nat → Int32 → Int32 → Int32 → Nat → Nat → (Nat → Nat × Nat) → (Nat → Nat → Int32) → (Nat → Nat → Int64) → (Nat → Nat → Option Nat) → Int32 → hS → Prop) (MX9_callI : Int64 → Int32 → Nat → Nat → (Nat → Nat × Nat) → (Nat → Nat → Int32) → (Nat → Nat → Int64) → (Nat → Nat → Option Nat) → Int32 → hS → Prop) (a1 : Option Nat) (a2 : Int32) (a3 : Int32) (a4 : Int32) (l5i : Int32) (l6i : Int32) (l7i : Int32)  (n sl : Nat) (SH : Nat → Nat × Nat) (FI : Nat → Nat → Int32) (FL : Nat → Nat → Int64) (FR : Nat → Nat → Option Nat) (hok : pk n SH FR) (hMX9_performI : ∀ (a1 : Option Nat) (a2 : Int32) (a3 : Int32) (a4 : Int32) (n sl : Nat) (SH : Nat → Nat × Nat) (FI : Nat → Nat → Int32) (FL : Nat → Nat → Int64) (FR : Nat → Nat → Option Nat), pk n SH FR → ∀ d, pw pj_I sk base (N - 1) d none 87 0 [(0, .ref (base + 49)), (1, va_rf (h_rf base (a1))), (2, .int (a2)), (3, .int (a3)), (4, .int (a4))] [] (n, sl, SH, FI, FL, FR) (MX9_performI a1 a2 a3 a4 n sl SH FI FL FR)) (hMX9_stepI : ∀ (a1 : Option Nat) (a2 : Int32) (a3 : Int32) (a4 : Int32) (n sl : Nat) (SH : Nat → Nat × Nat) (FI : Nat → Nat → Int32) (FL : Nat → Nat → Int64) (FR : Nat → Nat → Option Nat), pk n SH FR → ∀ d, pw pj_I sk base (N - 1) d none 88 0 [(0, .ref (base + 49)), (1, va_rf (h_rf base (a1))), (2, .int (a2)), (3, .int (a3)), (4, .int (a4))] [] (n, sl, SH, FI, FL, FR) (MX9_stepI a1 a2 a3 a4 n sl SH FI FL FR)) (hMX9_callI : ∀ (a1 : Int64) (a2 : Int32) (n sl : Nat) (SH : Nat → Nat × Nat) (FI : Nat → Nat → Int32) (FL : Nat → Nat → Int64) (FR : Nat → Nat → Option Nat), pk n SH FR → ∀ d, pw pj_I sk base (N - 1) d none 97 0 [(0, .ref (base + 49)), (1, .long (a1)), (3, .int (a2))] [] (n, sl, SH, FI, FL, FR) (MX9_callI a1 a2 n sl SH FI FL FR)) (hK6 : ∀ (l5i : Int32) (l6i : Int32) (l7i : Int32) (n sl : Nat) (SH : Nat → Nat × Nat) (FI : Nat → Nat → Int32) (FL : Nat → Nat → Int64) (FR : Nat → Nat → Option Nat), pk n SH FR → pw pj_I sk base N d none 87 6 [(0, .ref (base + 49)), (1, va_rf (h_rf base (a1))), (2, .int (a2)), (3, .int (a3)), (4, .int (a4)), (5, .int (l5i)), (6, .int (l6i)), (7, .int (l7i))] [] (n, sl, SH, FI, FL, FR) (K6 l5i l6i n sl SH FI FL FR)) : pw pj_I sk base N d none 87 69 [(0, .ref (base + 49)), (1, va_rf (h_rf base (a1))), (2, .int (a2)), (3, .int (a3)), (4, .int (a4)), (5, .int (l5i)), (6, .int (l6i)), (7, .int (l7i))] [] (n, sl, SH, FI, FL, FR) (RX9_performI_69 K6 MX9_performI MX9_stepI MX9_callI a1 a2 a3 a4 l5i l6i l7i n sl SH FI FL FR) := by
  unfold RX9_performI_69
  refine pw_iload (aX9_perform 35 rfl) rfl ?_
  refine pw_ifeq (tgt := 85) (aX9_perform 36 rfl) (by decide) (fun b0 => ?_) (fun b0 => ?_)
  · skip
    refine pw_aloadn (aX9_perform 44 rfl) rfl ?_
    refine pw_getr (v := .int (FI 49 11)) (aX9_perform 45 rfl) uf_RX9_75 un_RX9_75 rfl ?_
    refine pw_istore (L2 := [(5, .int (FI 49 11)), (0, .ref (base + 49)), (1, va_rf (h_rf base (a1))), (2, .int (a2)), (3, .int (a3)), (4, .int (a4)), (6, .int (l6i)), (7, .int (l7i))]) (aX9_perform 46 rfl) (by first | rfl | (simp [x_s1, x_s2, va_cat, va_ci, va_cl, va_cr, va_cn]; done) | (simp [x_s1, x_s2, va_cat, va_ci, va_cl, va_cr, va_cn]; decide)) ?_
    refine pw_iinc (v := (l6i) + (1 : Int32)) (L2 := [(6, .int ((l6i) + (1 : Int32))), (5, .int (FI 49 11)), (0, .ref (base + 49)), (1, va_rf (h_rf base (a1))), (2, .int (a2)), (3, .int (a3)), (4, .int (a4)), (7, .int (l7i))]) (aX9_perform 47 rfl) rfl rfl (by first | rfl | (simp [x_s1, x_s2, va_cat, va_ci, va_cl, va_cr, va_cn]; done) | (simp [x_s1, x_s2, va_cat, va_ci, va_cl, va_cr, va_cn]; decide)) ?_
    refine pw_goto (tgt := 6) (aX9_perform 48 rfl) (by decide) ?_
    exact pw_Li (L2 := [(0, .ref (base + 49)), (1, va_rf (h_rf base (a1))), (2, .int (a2)), (3, .int (a3)), (4, .int (a4)), (5, .int (FI 49 11)), (6, .int ((l6i) + (1 : Int32))), (7, .int (l7i))]) [6, 5, 0, 1, 2, 3, 4, 7] (hK6 (FI 49 11) ((l6i) + (1 : Int32)) (l7i) n sl SH FI FL FR hok) ⟨rfl, rfl, rfl, rfl, rfl, rfl, rfl, rfl, trivial⟩
  · skip
    refine pw_aloadn (aX9_perform 37 rfl) rfl ?_
    refine pw_iload (aX9_perform 38 rfl) rfl ?_
    refine pw_iloadn (aX9_perform 39 rfl) rfl ?_
    refine pw_isub (aX9_perform 40 rfl) ?_
    refine pw_putri (aX9_perform 41 rfl) uf_RX9_49 (fun _ _ _ => rfl) (fun t2 => ?_)
    refine pw_iload (aX9_perform 42 rfl) rfl ?_
    exact pw_iret (aX9_perform 43 rfl) hok
set_option maxHeartbeats 4000000 in
set_option maxRecDepth 100000 in
theorem rX9_performI_65 {sk : xK} {base N d : Nat} {K6 : Int32 → Int32 → Nat → Nat → (Nat → Nat × Nat) → (Nat → Nat → Int32) → (Nat → Nat → Int64) → (Nat → Nat → Option Nat) → Int32 → hS → Prop} (hkb : x_kb sk base) (MX9_performI : Option Nat → Int32 → Int32 → Int32 → Nat → Nat → (Nat → Nat × Nat) → (Nat → Nat → Int32) → (Nat → Nat → Int64) → (Nat → Nat → Option Nat) → Int32 → hS → Prop) (MX9_stepI : Option Nat → Int32 → Int32 → Int32 → Nat → Nat → (Nat → Nat × Nat) → (Nat → Nat → Int32) → (Nat → Nat → Int64) → (Nat → Nat → Option Nat) → Int32 → hS → Prop) (MX9_callI : Int64 → Int32 → Nat → Nat → (Nat → Nat × Nat) → (Nat → Nat → Int32) → (Nat → Nat → Int64) → (Nat → Nat → Option Nat) → Int32 → hS → Prop) (a1 : Option Nat) (a2 : Int32) (a3 : Int32) (a4 : Int32) (l5i : Int32) (l6i : Int32) (l7i : Int32) (n sl : Nat) (SH : Nat → Nat × Nat) (FI : Nat → Nat → Int32) (FL : Nat → Nat → Int64) (FR : Nat → Nat → Option Nat) (hok : pk n SH FR) (hMX9_performI : ∀ (a1 : Option Nat) (a2 : Int32) (a3 : Int32) (a4 : Int32) (n sl : Nat) (SH : Nat → Nat × Nat) (FI : Nat → Nat → Int32) (FL : Nat → Nat → Int64) (FR : Nat → Nat → Option Nat), pk n SH FR → ∀ d, pw pj_I sk base (N - 1) d none 87 0 [(0, .ref (base + 49)), (1, va_rf (h_rf base (a1))), (2, .int (a2)), (3, .int (a3)), (4, .int (a4))] [] (n, sl, SH, FI, FL, FR) (MX9_performI a1 a2 a3 a4 n sl SH FI FL FR)) (hMX9_stepI : ∀ (a1 : Option Nat) (a2 : Int32) (a3 : Int32) (a4 : Int32) (n sl : Nat) (SH : Nat → Nat × Nat) (FI : Nat → Nat → Int32) (FL : Nat → Nat → Int64) (FR : Nat → Nat → Option Nat), pk n SH FR → ∀ d, pw pj_I sk base (N - 1) d none 88 0 [(0, .ref (base + 49)), (1, va_rf (h_rf base (a1))), (2, .int (a2)), (3, .int (a3)), (4, .int (a4))] [] (n, sl, SH, FI, FL, FR) (MX9_stepI a1 a2 a3 a4 n sl SH FI FL FR)) (hMX9_callI : ∀ (a1 : Int64) (a2 : Int32) (n sl : Nat) (SH : Nat → Nat × Nat) (FI : Nat → Nat → Int32) (FL : Nat → Nat → Int64) (FR : Nat → Nat → Option Nat), pk n SH FR → ∀ d, pw pj_I sk base (N - 1) d none 97 0 [(0, .ref (base + 49)), (1, .long (a1)), (3, .int (a2))] [] (n, sl, SH, FI, FL, FR) (MX9_callI a1 a2 n sl SH FI FL FR)) (hK6 : ∀ (l5i : Int32) (l6i : Int32) (l7i : Int32) (n sl : Nat) (SH : Nat → Nat × Nat) (FI : Nat → Nat → Int32) (FL : Nat → Nat → Int64) (FR : Nat → Nat → Option Nat), pk n SH FR → pw pj_I sk base N d none 87 6 [(0, .ref (base + 49)), (1, va_rf (h_rf base (a1))), (2, .int (a2)), (3, .int (a3)), (4, .int (a4)), (5, .int (l5i)), (6, .int (l6i)), (7, .int (l7i))] [] (n, sl, SH, FI, FL, FR) (K6 l5i l6i n sl SH FI FL FR)) : pw pj_I sk base N d none 87 65 [(0, .ref (base + 49)), (1, va_rf (h_rf base (a1))), (2, .int (a2)), (3, .int (a3)), (4, .int (a4)), (5, .int (l5i)), (6, .int (l6i)), (7, .int (l7i))] [] (n, sl, SH, FI, FL, FR) (RX9_performI_65 K6 MX9_performI MX9_stepI MX9_callI a1 a2 a3 a4 l5i l6i n sl SH FI FL FR) := by
  unfold RX9_performI_65
  refine pw_bipush (v := (7 : Int32)) (aX9_perform 33 rfl) rfl ?_
  refine pw_istore (L2 := [(7, .int ((7 : Int32))), (0, .ref (base + 49)), (1, va_rf (h_rf base (a1))), (2, .int (a2)), (3, .int (a3)), (4, .int (a4)), (5, .int (l5i)), (6, .int (l6i))]) (aX9_perform 34 rfl) (by first | rfl | (simp [x_s1, x_s2, va_cat, va_ci, va_cl, va_cr, va_cn]; done) | (simp [x_s1, x_s2, va_cat, va_ci, va_cl, va_cr, va_cn]; decide)) ?_
  exact pw_Li (L2 := [(0, .ref (base + 49)), (1, va_rf (h_rf base (a1))), (2, .int (a2)), (3, .int (a3)), (4, .int (a4)), (5, .int (l5i)), (6, .int (l6i)), (7, .int ((7 : Int32)))]) [7, 0, 1, 2, 3, 4, 5, 6] (rX9_performI_69 hkb MX9_performI MX9_stepI MX9_callI a1 a2 a3 a4 (l5i) (l6i) ((7 : Int32)) n sl SH FI FL FR hok (fun a1 a2 a3 a4 n sl SH FI FL FR ok d => pw_mono (hMX9_performI a1 a2 a3 a4 n sl SH FI FL FR ok d) (by omega)) (fun a1 a2 a3 a4 n sl SH FI FL FR ok d => pw_mono (hMX9_stepI a1 a2 a3 a4 n sl SH FI FL FR ok d) (by omega)) (fun a1 a2 n sl SH FI FL FR ok d => pw_mono (hMX9_callI a1 a2 n sl SH FI FL FR ok d) (by omega)) hK6) ⟨rfl, rfl, rfl, rfl, rfl, rfl, rfl, rfl, trivial⟩
set_option maxHeartbeats 4000000 in
set_option maxRecDepth 100000 in
theorem bX9_performI_6 {sk : xK} {base N d : Nat} {K6 : Int32 → Int32 → Nat → Nat → (Nat → Nat × Nat) → (Nat → Nat → Int32) → (Nat → Nat → Int64) → (Nat → Nat → Option Nat) → Int32 → hS → Prop} (hkb : x_kb sk base) (MX9_performI : Option Nat → Int32 → Int32 → Int32 → Nat → Nat → (Nat → Nat × Nat) → (Nat → Nat → Int32) → (Nat → Nat → Int64) → (Nat → Nat → Option Nat) → Int32 → hS → Prop) (MX9_stepI : Option Nat → Int32 → Int32 → Int32 → Nat → Nat → (Nat → Nat × Nat) → (Nat → Nat → Int32) → (Nat → Nat → Int64) → (Nat → Nat → Option Nat) → Int32 → hS → Prop) (MX9_callI : Int64 → Int32 → Nat → Nat → (Nat → Nat × Nat) → (Nat → Nat → Int32) → (Nat → Nat → Int64) → (Nat → Nat → Option Nat) → Int32 → hS → Prop) (a1 : Option Nat) (a2 : Int32) (a3 : Int32) (a4 : Int32) (l5i : Int32) (l6i : Int32) (l7i : Int32) (n sl : Nat) (SH : Nat → Nat × Nat) (FI : Nat → Nat → Int32) (FL : Nat → Nat → Int64) (FR : Nat → Nat → Option Nat) (hok : pk n SH FR) (hMX9_performI : ∀ (a1 : Option Nat) (a2 : Int32) (a3 : Int32) (a4 : Int32) (n sl : Nat) (SH : Nat → Nat × Nat) (FI : Nat → Nat → Int32) (FL : Nat → Nat → Int64) (FR : Nat → Nat → Option Nat), pk n SH FR → ∀ d, pw pj_I sk base (N + 1 - 1) d none 87 0 [(0, .ref (base + 49)), (1, va_rf (h_rf base (a1))), (2, .int (a2)), (3, .int (a3)), (4, .int (a4))] [] (n, sl, SH, FI, FL, FR) (MX9_performI a1 a2 a3 a4 n sl SH FI FL FR)) (hMX9_stepI : ∀ (a1 : Option Nat) (a2 : Int32) (a3 : Int32) (a4 : Int32) (n sl : Nat) (SH : Nat → Nat × Nat) (FI : Nat → Nat → Int32) (FL : Nat → Nat → Int64) (FR : Nat → Nat → Option Nat), pk n SH FR → ∀ d, pw pj_I sk base (N + 1 - 1) d none 88 0 [(0, .ref (base + 49)), (1, va_rf (h_rf base (a1))), (2, .int (a2)), (3, .int (a3)), (4, .int (a4))] [] (n, sl, SH, FI, FL, FR) (MX9_stepI a1 a2 a3 a4 n sl SH FI FL FR)) (hMX9_callI : ∀ (a1 : Int64) (a2 : Int32) (n sl : Nat) (SH : Nat → Nat × Nat) (FI : Nat → Nat → Int32) (FL : Nat → Nat → Int64) (FR : Nat → Nat → Option Nat), pk n SH FR → ∀ d, pw pj_I sk base (N + 1 - 1) d none 97 0 [(0, .ref (base + 49)), (1, .long (a1)), (3, .int (a2))] [] (n, sl, SH, FI, FL, FR) (MX9_callI a1 a2 n sl SH FI FL FR)) (hK6 : ∀ (l5i : Int32) (l6i : Int32) (l7i : Int32) (n sl : Nat) (SH : Nat → Nat × Nat) (FI : Nat → Nat → Int32) (FL : Nat → Nat → Int64) (FR : Nat → Nat → Option Nat), pk n SH FR → pw pj_I sk base N d none 87 6 [(0, .ref (base + 49)), (1, va_rf (h_rf base (a1))), (2, .int (a2)), (3, .int (a3)), (4, .int (a4)), (5, .int (l5i)), (6, .int (l6i)), (7, .int (l7i))] [] (n, sl, SH, FI, FL, FR) (K6 l5i l6i n sl SH FI FL FR)) : pw pj_I sk base (N + 1) d none 87 6 [(0, .ref (base + 49)), (1, va_rf (h_rf base (a1))), (2, .int (a2)), (3, .int (a3)), (4, .int (a4)), (5, .int (l5i)), (6, .int (l6i)), (7, .int (l7i))] [] (n, sl, SH, FI, FL, FR) (BX9_performI_6 K6 MX9_performI MX9_stepI MX9_callI a1 a2 a3 a4 l5i l6i n sl SH FI FL FR) := by
  unfold BX9_performI_6
  refine pd_iload (aX9_perform 4 rfl) rfl ?_
  refine pw_sipush (v := (1000 : Int32)) (aX9_perform 5 rfl) rfl ?_
  refine pw_icgt (tgt := 97) (aX9_perform 6 rfl) (by decide) (fun b0 => ?_) (fun b0 => ?_)
  · skip
    refine pw_iconst (v := (0 : Int32)) (aX9_perform 49 rfl) rfl ?_
    exact pw_iret (aX9_perform 50 rfl) hok
  · skip
    refine pw_iload (aX9_perform 7 rfl) rfl ?_
    refine pw_iflt (tgt := 97) (aX9_perform 8 rfl) (by decide) (fun b1 => ?_) (fun b1 => ?_)
    · skip
      refine pw_iconst (v := (0 : Int32)) (aX9_perform 49 rfl) rfl ?_
      exact pw_iret (aX9_perform 50 rfl) hok
    · skip
      refine pw_iload (aX9_perform 9 rfl) rfl ?_
      refine pw_iloadn (aX9_perform 10 rfl) rfl ?_
      refine pw_icge (tgt := 97) (aX9_perform 11 rfl) (by decide) (fun b2 => ?_) (fun b2 => ?_)
      · skip
        refine pw_iload (aX9_perform 12 rfl) rfl ?_
        refine pw_aloadn (aX9_perform 13 rfl) rfl ?_
        refine pw_alen hkb (o := a1) (aX9_perform 14 rfl) (fun c4 hc4 _ => ?_)
        refine pw_icge (tgt := 97) (aX9_perform 15 rfl) (by decide) (fun b4 => ?_) (fun b4 => ?_)
        · skip
          refine pw_aloadn (aX9_perform 16 rfl) rfl ?_
          refine pw_aloadn (aX9_perform 17 rfl) rfl ?_
          refine pw_iload (aX9_perform 18 rfl) rfl ?_
          refine pw_iloadn (aX9_perform 19 rfl) rfl ?_
          refine pw_iload (aX9_perform 20 rfl) rfl ?_
          refine pw_callV (Bs := [va_rf (h_rf base (a1)), .int (l5i), .int (a3), .int (a4)]) (L2 := [(0, .ref (base + 49)), (1, va_rf (h_rf base (a1))), (2, .int (l5i)), (3, .int (a3)), (4, .int (a4))]) (rest := []) (aX9_perform 21 rfl) um_RX9_72 ujX9_step wc_RX9_72.2.2.2.2 (by decide) (by decide) rfl (by first | rfl | simp [lv_args, va_cat, va_ci, va_cl, va_cr, va_cn]) (fun d => pw_mono (hMX9_stepI (a1) (l5i) (a3) (a4) n sl SH FI FL FR hok d) (by omega)) (fun v5 n5 sl5 SH5 FI5 FL5 FR5 hok5 _ => ?_)
          show pw _ _ _ _ _ _ _ 42 _ [.int (v5)] _ _
          refine pw_istore (L2 := [(7, .int (v5)), (0, .ref (base + 49)), (1, va_rf (h_rf base (a1))), (2, .int (a2)), (3, .int (a3)), (4, .int (a4)), (5, .int (l5i)), (6, .int (l6i))]) (aX9_perform 22 rfl) (by first | rfl | (simp [x_s1, x_s2, va_cat, va_ci, va_cl, va_cr, va_cn]; done) | (simp [x_s1, x_s2, va_cat, va_ci, va_cl, va_cr, va_cn]; decide)) ?_
          refine pw_iload (aX9_perform 23 rfl) rfl ?_
          refine pw_ifne (tgt := 69) (aX9_perform 24 rfl) (by decide) (fun b6 => ?_) (fun b6 => ?_)
          · skip
            refine pw_aloadn (aX9_perform 25 rfl) rfl ?_
            refine pw_getr (v := .int (FI5 49 11)) (aX9_perform 26 rfl) uf_RX9_75 un_RX9_75 rfl ?_
            refine pw_iloadn (aX9_perform 27 rfl) rfl ?_
            refine pw_iclt (tgt := 65) (aX9_perform 28 rfl) (by decide) (fun b7 => ?_) (fun b7 => ?_)
            · skip
              exact pw_Li (L2 := [(0, .ref (base + 49)), (1, va_rf (h_rf base (a1))), (2, .int (a2)), (3, .int (a3)), (4, .int (a4)), (5, .int (l5i)), (6, .int (l6i)), (7, .int (v5))]) [7, 0, 1, 2, 3, 4, 5, 6] (rX9_performI_65 hkb MX9_performI MX9_stepI MX9_callI a1 a2 a3 a4 (l5i) (l6i) (v5) n5 sl5 SH5 FI5 FL5 FR5 hok5 (fun a1 a2 a3 a4 n sl SH FI FL FR ok d => pw_mono (hMX9_performI a1 a2 a3 a4 n sl SH FI FL FR ok d) (by omega)) (fun a1 a2 a3 a4 n sl SH FI FL FR ok d => pw_mono (hMX9_stepI a1 a2 a3 a4 n sl SH FI FL FR ok d) (by omega)) (fun a1 a2 n sl SH FI FL FR ok d => pw_mono (hMX9_callI a1 a2 n sl SH FI FL FR ok d) (by omega)) hK6) ⟨rfl, rfl, rfl, rfl, rfl, rfl, rfl, rfl, trivial⟩
            · skip
              refine pw_aloadn (aX9_perform 29 rfl) rfl ?_
              refine pw_getr (v := .int (FI5 49 11)) (aX9_perform 30 rfl) uf_RX9_75 un_RX9_75 rfl ?_
              refine pw_iloadn (aX9_perform 31 rfl) rfl ?_
              refine pw_icle (tgt := 69) (aX9_perform 32 rfl) (by decide) (fun b8 => ?_) (fun b8 => ?_)
              · skip
                exact pw_Li (L2 := [(0, .ref (base + 49)), (1, va_rf (h_rf base (a1))), (2, .int (a2)), (3, .int (a3)), (4, .int (a4)), (5, .int (l5i)), (6, .int (l6i)), (7, .int (v5))]) [7, 0, 1, 2, 3, 4, 5, 6] (rX9_performI_65 hkb MX9_performI MX9_stepI MX9_callI a1 a2 a3 a4 (l5i) (l6i) (v5) n5 sl5 SH5 FI5 FL5 FR5 hok5 (fun a1 a2 a3 a4 n sl SH FI FL FR ok d => pw_mono (hMX9_performI a1 a2 a3 a4 n sl SH FI FL FR ok d) (by omega)) (fun a1 a2 a3 a4 n sl SH FI FL FR ok d => pw_mono (hMX9_stepI a1 a2 a3 a4 n sl SH FI FL FR ok d) (by omega)) (fun a1 a2 n sl SH FI FL FR ok d => pw_mono (hMX9_callI a1 a2 n sl SH FI FL FR ok d) (by omega)) hK6) ⟨rfl, rfl, rfl, rfl, rfl, rfl, rfl, rfl, trivial⟩
              · skip
                exact pw_Li (L2 := [(0, .ref (base + 49)), (1, va_rf (h_rf base (a1))), (2, .int (a2)), (3, .int (a3)), (4, .int (a4)), (5, .int (l5i)), (6, .int (l6i)), (7, .int (v5))]) [7, 0, 1, 2, 3, 4, 5, 6] (rX9_performI_69 hkb MX9_performI MX9_stepI MX9_callI a1 a2 a3 a4 (l5i) (l6i) (v5) n5 sl5 SH5 FI5 FL5 FR5 hok5 (fun a1 a2 a3 a4 n sl SH FI FL FR ok d => pw_mono (hMX9_performI a1 a2 a3 a4 n sl SH FI FL FR ok d) (by omega)) (fun a1 a2 a3 a4 n sl SH FI FL FR ok d => pw_mono (hMX9_stepI a1 a2 a3 a4 n sl SH FI FL FR ok d) (by omega)) (fun a1 a2 n sl SH FI FL FR ok d => pw_mono (hMX9_callI a1 a2 n sl SH FI FL FR ok d) (by omega)) hK6) ⟨rfl, rfl, rfl, rfl, rfl, rfl, rfl, rfl, trivial⟩
          · skip
            exact pw_Li (L2 := [(0, .ref (base + 49)), (1, va_rf (h_rf base (a1))), (2, .int (a2)), (3, .int (a3)), (4, .int (a4)), (5, .int (l5i)), (6, .int (l6i)), (7, .int (v5))]) [7, 0, 1, 2, 3, 4, 5, 6] (rX9_performI_69 hkb MX9_performI MX9_stepI MX9_callI a1 a2 a3 a4 (l5i) (l6i) (v5) n5 sl5 SH5 FI5 FL5 FR5 hok5 (fun a1 a2 a3 a4 n sl SH FI FL FR ok d => pw_mono (hMX9_performI a1 a2 a3 a4 n sl SH FI FL FR ok d) (by omega)) (fun a1 a2 a3 a4 n sl SH FI FL FR ok d => pw_mono (hMX9_stepI a1 a2 a3 a4 n sl SH FI FL FR ok d) (by omega)) (fun a1 a2 n sl SH FI FL FR ok d => pw_mono (hMX9_callI a1 a2 n sl SH FI FL FR ok d) (by omega)) hK6) ⟨rfl, rfl, rfl, rfl, rfl, rfl, rfl, rfl, trivial⟩
        · skip
          refine pw_iconst (v := (0 : Int32)) (aX9_perform 49 rfl) rfl ?_
          exact pw_iret (aX9_perform 50 rfl) hok
      · skip
        refine pw_iconst (v := (0 : Int32)) (aX9_perform 49 rfl) rfl ?_
        exact pw_iret (aX9_perform 50 rfl) hok
theorem gX9_performI_6 {sk : xK} {base d : Nat}  (hkb : x_kb sk base) (MX9_performI : Option Nat → Int32 → Int32 → Int32 → Nat → Nat → (Nat → Nat × Nat) → (Nat → Nat → Int32) → (Nat → Nat → Int64) → (Nat → Nat → Option Nat) → Int32 → hS → Prop) (MX9_stepI : Option Nat → Int32 → Int32 → Int32 → Nat → Nat → (Nat → Nat × Nat) → (Nat → Nat → Int32) → (Nat → Nat → Int64) → (Nat → Nat → Option Nat) → Int32 → hS → Prop) (MX9_callI : Int64 → Int32 → Nat → Nat → (Nat → Nat × Nat) → (Nat → Nat → Int32) → (Nat → Nat → Int64) → (Nat → Nat → Option Nat) → Int32 → hS → Prop) (a1 : Option Nat) (a2 : Int32) (a3 : Int32) (a4 : Int32) (N : Nat) : (∀ (a1 : Option Nat) (a2 : Int32) (a3 : Int32) (a4 : Int32) (n sl : Nat) (SH : Nat → Nat × Nat) (FI : Nat → Nat → Int32) (FL : Nat → Nat → Int64) (FR : Nat → Nat → Option Nat), pk n SH FR → ∀ d, pw pj_I sk base (N - 1) d none 87 0 [(0, .ref (base + 49)), (1, va_rf (h_rf base (a1))), (2, .int (a2)), (3, .int (a3)), (4, .int (a4))] [] (n, sl, SH, FI, FL, FR) (MX9_performI a1 a2 a3 a4 n sl SH FI FL FR)) → (∀ (a1 : Option Nat) (a2 : Int32) (a3 : Int32) (a4 : Int32) (n sl : Nat) (SH : Nat → Nat × Nat) (FI : Nat → Nat → Int32) (FL : Nat → Nat → Int64) (FR : Nat → Nat → Option Nat), pk n SH FR → ∀ d, pw pj_I sk base (N - 1) d none 88 0 [(0, .ref (base + 49)), (1, va_rf (h_rf base (a1))), (2, .int (a2)), (3, .int (a3)), (4, .int (a4))] [] (n, sl, SH, FI, FL, FR) (MX9_stepI a1 a2 a3 a4 n sl SH FI FL FR)) → (∀ (a1 : Int64) (a2 : Int32) (n sl : Nat) (SH : Nat → Nat × Nat) (FI : Nat → Nat → Int32) (FL : Nat → Nat → Int64) (FR : Nat → Nat → Option Nat), pk n SH FR → ∀ d, pw pj_I sk base (N - 1) d none 97 0 [(0, .ref (base + 49)), (1, .long (a1)), (3, .int (a2))] [] (n, sl, SH, FI, FL, FR) (MX9_callI a1 a2 n sl SH FI FL FR)) →  ∀ (l5i : Int32) (l6i : Int32) (l7i : Int32) (n sl : Nat) (SH : Nat → Nat × Nat) (FI : Nat → Nat → Int32) (FL : Nat → Nat → Int64) (FR : Nat → Nat → Option Nat), pk n SH FR → pw pj_I sk base N d none 87 6 [(0, .ref (base + 49)), (1, va_rf (h_rf base (a1))), (2, .int (a2)), (3, .int (a3)), (4, .int (a4)), (5, .int (l5i)), (6, .int (l6i)), (7, .int (l7i))] [] (n, sl, SH, FI, FL, FR) (GX9_performI_6  MX9_performI MX9_stepI MX9_callI a1 a2 a3 a4 (N + 1) l5i l6i n sl SH FI FL FR) := by
  induction N with
  | zero => intros; exact pw_0
  | succ N ih => intro hMX9_performI hMX9_stepI hMX9_callI  l5i l6i l7i n sl SH FI FL FR hok; exact bX9_performI_6 hkb MX9_performI MX9_stepI MX9_callI a1 a2 a3 a4 l5i l6i l7i n sl SH FI FL FR hok hMX9_performI hMX9_stepI hMX9_callI (ih (fun a1 a2 a3 a4 n sl SH FI FL FR ok d => pw_mono (hMX9_performI a1 a2 a3 a4 n sl SH FI FL FR ok d) (by omega)) (fun a1 a2 a3 a4 n sl SH FI FL FR ok d => pw_mono (hMX9_stepI a1 a2 a3 a4 n sl SH FI FL FR ok d) (by omega)) (fun a1 a2 n sl SH FI FL FR ok d => pw_mono (hMX9_callI a1 a2 n sl SH FI FL FR ok d) (by omega)) )
theorem rX9_performI_6 {sk : xK} {base N d : Nat}  (hkb : x_kb sk base) (MX9_performI : Option Nat → Int32 → Int32 → Int32 → Nat → Nat → (Nat → Nat × Nat) → (Nat → Nat → Int32) → (Nat → Nat → Int64) → (Nat → Nat → Option Nat) → Int32 → hS → Prop) (MX9_stepI : Option Nat → Int32 → Int32 → Int32 → Nat → Nat → (Nat → Nat × Nat) → (Nat → Nat → Int32) → (Nat → Nat → Int64) → (Nat → Nat → Option Nat) → Int32 → hS → Prop) (MX9_callI : Int64 → Int32 → Nat → Nat → (Nat → Nat × Nat) → (Nat → Nat → Int32) → (Nat → Nat → Int64) → (Nat → Nat → Option Nat) → Int32 → hS → Prop) (a1 : Option Nat) (a2 : Int32) (a3 : Int32) (a4 : Int32) (l5i : Int32) (l6i : Int32) (l7i : Int32) (n sl : Nat) (SH : Nat → Nat × Nat) (FI : Nat → Nat → Int32) (FL : Nat → Nat → Int64) (FR : Nat → Nat → Option Nat) (hok : pk n SH FR) (hMX9_performI : ∀ (a1 : Option Nat) (a2 : Int32) (a3 : Int32) (a4 : Int32) (n sl : Nat) (SH : Nat → Nat × Nat) (FI : Nat → Nat → Int32) (FL : Nat → Nat → Int64) (FR : Nat → Nat → Option Nat), pk n SH FR → ∀ d, pw pj_I sk base (N - 1) d none 87 0 [(0, .ref (base + 49)), (1, va_rf (h_rf base (a1))), (2, .int (a2)), (3, .int (a3)), (4, .int (a4))] [] (n, sl, SH, FI, FL, FR) (MX9_performI a1 a2 a3 a4 n sl SH FI FL FR)) (hMX9_stepI : ∀ (a1 : Option Nat) (a2 : Int32) (a3 : Int32) (a4 : Int32) (n sl : Nat) (SH : Nat → Nat × Nat) (FI : Nat → Nat → Int32) (FL : Nat → Nat → Int64) (FR : Nat → Nat → Option Nat), pk n SH FR → ∀ d, pw pj_I sk base (N - 1) d none 88 0 [(0, .ref (base + 49)), (1, va_rf (h_rf base (a1))), (2, .int (a2)), (3, .int (a3)), (4, .int (a4))] [] (n, sl, SH, FI, FL, FR) (MX9_stepI a1 a2 a3 a4 n sl SH FI FL FR)) (hMX9_callI : ∀ (a1 : Int64) (a2 : Int32) (n sl : Nat) (SH : Nat → Nat × Nat) (FI : Nat → Nat → Int32) (FL : Nat → Nat → Int64) (FR : Nat → Nat → Option Nat), pk n SH FR → ∀ d, pw pj_I sk base (N - 1) d none 97 0 [(0, .ref (base + 49)), (1, .long (a1)), (3, .int (a2))] [] (n, sl, SH, FI, FL, FR) (MX9_callI a1 a2 n sl SH FI FL FR))  : pw pj_I sk base N d none 87 6 [(0, .ref (base + 49)), (1, va_rf (h_rf base (a1))), (2, .int (a2)), (3, .int (a3)), (4, .int (a4)), (5, .int (l5i)), (6, .int (l6i)), (7, .int (l7i))] [] (n, sl, SH, FI, FL, FR) (RX9_performI_6  MX9_performI MX9_stepI MX9_callI a1 a2 a3 a4 l5i l6i n sl SH FI FL FR) := pw_cons (gX9_performI_6 hkb MX9_performI MX9_stepI MX9_callI a1 a2 a3 a4 N hMX9_performI hMX9_stepI hMX9_callI  l5i l6i l7i n sl SH FI FL FR hok) (fun _ _ h => ⟨_, h⟩)
set_option maxHeartbeats 4000000 in
set_option maxRecDepth 100000 in
theorem rX9_performI {sk : xK} {base N d : Nat} (hkb : x_kb sk base) (MX9_performI : Option Nat → Int32 → Int32 → Int32 → Nat → Nat → (Nat → Nat × Nat) → (Nat → Nat → Int32) → (Nat → Nat → Int64) → (Nat → Nat → Option Nat) → Int32 → hS → Prop) (MX9_stepI : Option Nat → Int32 → Int32 → Int32 → Nat → Nat → (Nat → Nat × Nat) → (Nat → Nat → Int32) → (Nat → Nat → Int64) → (Nat → Nat → Option Nat) → Int32 → hS → Prop) (MX9_callI : Int64 → Int32 → Nat → Nat → (Nat → Nat × Nat) → (Nat → Nat → Int32) → (Nat → Nat → Int64) → (Nat → Nat → Option Nat) → Int32 → hS → Prop) (a1 : Option Nat) (a2 : Int32) (a3 : Int32) (a4 : Int32) (n sl : Nat) (SH : Nat → Nat × Nat) (FI : Nat → Nat → Int32) (FL : Nat → Nat → Int64) (FR : Nat → Nat → Option Nat) (hok : pk n SH FR) (hMX9_performI : ∀ (a1 : Option Nat) (a2 : Int32) (a3 : Int32) (a4 : Int32) (n sl : Nat) (SH : Nat → Nat × Nat) (FI : Nat → Nat → Int32) (FL : Nat → Nat → Int64) (FR : Nat → Nat → Option Nat), pk n SH FR → ∀ d, pw pj_I sk base (N - 1) d none 87 0 [(0, .ref (base + 49)), (1, va_rf (h_rf base (a1))), (2, .int (a2)), (3, .int (a3)), (4, .int (a4))] [] (n, sl, SH, FI, FL, FR) (MX9_performI a1 a2 a3 a4 n sl SH FI FL FR)) (hMX9_stepI : ∀ (a1 : Option Nat) (a2 : Int32) (a3 : Int32) (a4 : Int32) (n sl : Nat) (SH : Nat → Nat × Nat) (FI : Nat → Nat → Int32) (FL : Nat → Nat → Int64) (FR : Nat → Nat → Option Nat), pk n SH FR → ∀ d, pw pj_I sk base (N - 1) d none 88 0 [(0, .ref (base + 49)), (1, va_rf (h_rf base (a1))), (2, .int (a2)), (3, .int (a3)), (4, .int (a4))] [] (n, sl, SH, FI, FL, FR) (MX9_stepI a1 a2 a3 a4 n sl SH FI FL FR)) (hMX9_callI : ∀ (a1 : Int64) (a2 : Int32) (n sl : Nat) (SH : Nat → Nat × Nat) (FI : Nat → Nat → Int32) (FL : Nat → Nat → Int64) (FR : Nat → Nat → Option Nat), pk n SH FR → ∀ d, pw pj_I sk base (N - 1) d none 97 0 [(0, .ref (base + 49)), (1, .long (a1)), (3, .int (a2))] [] (n, sl, SH, FI, FL, FR) (MX9_callI a1 a2 n sl SH FI FL FR)) : pw pj_I sk base N d none 87 0 [(0, .ref (base + 49)), (1, va_rf (h_rf base (a1))), (2, .int (a2)), (3, .int (a3)), (4, .int (a4))] [] (n, sl, SH, FI, FL, FR) (RX9_performI MX9_performI MX9_stepI MX9_callI a1 a2 a3 a4 n sl SH FI FL FR) := by
  unfold RX9_performI
  refine pw_iloadn (aX9_perform 0 rfl) rfl ?_
  refine pw_istore (L2 := [(5, .int (a2)), (0, .ref (base + 49)), (1, va_rf (h_rf base (a1))), (2, .int (a2)), (3, .int (a3)), (4, .int (a4))]) (aX9_perform 1 rfl) (by first | rfl | (simp [x_s1, x_s2, va_cat, va_ci, va_cl, va_cr, va_cn]; done) | (simp [x_s1, x_s2, va_cat, va_ci, va_cl, va_cr, va_cn]; decide)) ?_
  refine pw_iconst (v := (0 : Int32)) (aX9_perform 2 rfl) rfl ?_
  refine pw_istore (L2 := [(6, .int ((0 : Int32))), (5, .int (a2)), (0, .ref (base + 49)), (1, va_rf (h_rf base (a1))), (2, .int (a2)), (3, .int (a3)), (4, .int (a4))]) (aX9_perform 3 rfl) (by first | rfl | (simp [x_s1, x_s2, va_cat, va_ci, va_cl, va_cr, va_cn]; done) | (simp [x_s1, x_s2, va_cat, va_ci, va_cl, va_cr, va_cn]; decide)) ?_
  exact pw_Li (L2 := [(0, .ref (base + 49)), (1, va_rf (h_rf base (a1))), (2, .int (a2)), (3, .int (a3)), (4, .int (a4)), (5, .int (a2)), (6, .int ((0 : Int32))), (7, .int 0)]) [6, 5, 0, 1, 2, 3, 4] (rX9_performI_6 hkb MX9_performI MX9_stepI MX9_callI a1 a2 a3 a4 (a2) ((0 : Int32)) 0 n sl SH FI FL FR hok (fun a1 a2 a3 a4 n sl SH FI FL FR ok d => pw_mono (hMX9_performI a1 a2 a3 a4 n sl SH FI FL FR ok d) (by omega)) (fun a1 a2 a3 a4 n sl SH FI FL FR ok d => pw_mono (hMX9_stepI a1 a2 a3 a4 n sl SH FI FL FR ok d) (by omega)) (fun a1 a2 n sl SH FI FL FR ok d => pw_mono (hMX9_callI a1 a2 n sl SH FI FL FR ok d) (by omega)) ) ⟨rfl, rfl, rfl, rfl, rfl, rfl, rfl, trivial⟩
set_option maxHeartbeats 4000000 in
set_option maxRecDepth 100000 in
theorem rX9_stepI_90 {sk : xK} {base N d : Nat}  (hkb : x_kb sk base) (MX9_performI : Option Nat → Int32 → Int32 → Int32 → Nat → Nat → (Nat → Nat × Nat) → (Nat → Nat → Int32) → (Nat → Nat → Int64) → (Nat → Nat → Option Nat) → Int32 → hS → Prop) (MX9_stepI : Option Nat → Int32 → Int32 → Int32 → Nat → Nat → (Nat → Nat × Nat) → (Nat → Nat → Int32) → (Nat → Nat → Int64) → (Nat → Nat → Option Nat) → Int32 → hS → Prop) (MX9_callI : Int64 → Int32 → Nat → Nat → (Nat → Nat × Nat) → (Nat → Nat → Int32) → (Nat → Nat → Int64) → (Nat → Nat → Option Nat) → Int32 → hS → Prop) (a1 : Option Nat) (a2 : Int32) (a3 : Int32) (a4 : Int32) (l5i : Int32) (l7i : Int32) (l6i : Int32) (n sl : Nat) (SH : Nat → Nat × Nat) (FI : Nat → Nat → Int32) (FL : Nat → Nat → Int64) (FR : Nat → Nat → Option Nat) (hok : pk n SH FR) (hMX9_performI : ∀ (a1 : Option Nat) (a2 : Int32) (a3 : Int32) (a4 : Int32) (n sl : Nat) (SH : Nat → Nat × Nat) (FI : Nat → Nat → Int32) (FL : Nat → Nat → Int64) (FR : Nat → Nat → Option Nat), pk n SH FR → ∀ d, pw pj_I sk base (N - 1) d none 87 0 [(0, .ref (base + 49)), (1, va_rf (h_rf base (a1))), (2, .int (a2)), (3, .int (a3)), (4, .int (a4))] [] (n, sl, SH, FI, FL, FR) (MX9_performI a1 a2 a3 a4 n sl SH FI FL FR)) (hMX9_stepI : ∀ (a1 : Option Nat) (a2 : Int32) (a3 : Int32) (a4 : Int32) (n sl : Nat) (SH : Nat → Nat × Nat) (FI : Nat → Nat → Int32) (FL : Nat → Nat → Int64) (FR : Nat → Nat → Option Nat), pk n SH FR → ∀ d, pw pj_I sk base (N - 1) d none 88 0 [(0, .ref (base + 49)), (1, va_rf (h_rf base (a1))), (2, .int (a2)), (3, .int (a3)), (4, .int (a4))] [] (n, sl, SH, FI, FL, FR) (MX9_stepI a1 a2 a3 a4 n sl SH FI FL FR)) (hMX9_callI : ∀ (a1 : Int64) (a2 : Int32) (n sl : Nat) (SH : Nat → Nat × Nat) (FI : Nat → Nat → Int32) (FL : Nat → Nat → Int64) (FR : Nat → Nat → Option Nat), pk n SH FR → ∀ d, pw pj_I sk base (N - 1) d none 97 0 [(0, .ref (base + 49)), (1, .long (a1)), (3, .int (a2))] [] (n, sl, SH, FI, FL, FR) (MX9_callI a1 a2 n sl SH FI FL FR))  : pw pj_I sk base N d none 88 90 [(0, .ref (base + 49)), (1, va_rf (h_rf base (a1))), (2, .int (a2)), (3, .int (a3)), (4, .int (a4)), (5, .int (l5i)), (6, .int (l6i)), (7, .int (l7i))] [] (n, sl, SH, FI, FL, FR) (RX9_stepI_90  MX9_performI MX9_stepI MX9_callI a1 a2 a3 a4 l5i l7i n sl SH FI FL FR) := by
  unfold RX9_stepI_90
  refine pw_aloadn (aX9_step 48 rfl) rfl ?_
  refine pw_iload (aX9_step 49 rfl) rfl ?_
  refine pw_bipush (v := (47 : Int32)) (aX9_step 50 rfl) rfl ?_
  refine pw_iceq (tgt := 107) (aX9_step 51 rfl) (by decide) (fun b0 => ?_) (fun b0 => ?_)
  · skip
    refine pw_iload (aX9_step 57 rfl) rfl ?_
    refine pw_aloadn (aX9_step 58 rfl) rfl ?_
    refine pw_getr (v := .long (FL 49 12)) (aX9_step 59 rfl) uf_RX9_96 un_RX9_96 rfl ?_
    refine pw_l2i (aX9_step 60 rfl) ?_
    refine pw_iadd (aX9_step 61 rfl) ?_
    refine pw_goto (tgt := 120) (aX9_step 62 rfl) (by decide) ?_
    refine pw_putri (aX9_step 64 rfl) uf_RX9_75 (fun _ _ _ => rfl) (fun t2 => ?_)
    refine pw_iconst (v := (0 : Int32)) (aX9_step 65 rfl) rfl ?_
    exact pw_iret (aX9_step 66 rfl) hok
  · skip
    refine pw_aloadn (aX9_step 52 rfl) rfl ?_
    refine pw_callV (Bs := []) (rest := [.ref (base + 49)]) (aX9_step 53 rfl) um_RX9_92 ujX9_pop wc_RX9_92.2.2.2.2 (by decide) (by decide) rfl rfl (fun d => rX9_popI hkb  n sl SH FI FL FR hok) (fun v2 n2 sl2 SH2 FI2 FL2 FR2 hok2 _ => ?_)
    show pw _ _ _ _ _ _ _ 102 _ [.long (v2), .ref (base + 49)] _ _
    refine pw_lconst (v := (0 : Int64)) (aX9_step 54 rfl) rfl ?_
    refine pw_lceq (tgt := 118) (aX9_step 55 rfl) (aX9_step 56 rfl) (by decide) (fun b3 => ?_) (fun b3 => ?_)
    · skip
      refine pw_iload (aX9_step 63 rfl) rfl ?_
      refine pw_putri (aX9_step 64 rfl) uf_RX9_75 (fun _ _ _ => rfl) (fun t5 => ?_)
      refine pw_iconst (v := (0 : Int32)) (aX9_step 65 rfl) rfl ?_
      exact pw_iret (aX9_step 66 rfl) hok2
    · skip
      refine pw_iload (aX9_step 57 rfl) rfl ?_
      refine pw_aloadn (aX9_step 58 rfl) rfl ?_
      refine pw_getr (v := .long (FL2 49 12)) (aX9_step 59 rfl) uf_RX9_96 un_RX9_96 rfl ?_
      refine pw_l2i (aX9_step 60 rfl) ?_
      refine pw_iadd (aX9_step 61 rfl) ?_
      refine pw_goto (tgt := 120) (aX9_step 62 rfl) (by decide) ?_
      refine pw_putri (aX9_step 64 rfl) uf_RX9_75 (fun _ _ _ => rfl) (fun t6 => ?_)
      refine pw_iconst (v := (0 : Int32)) (aX9_step 65 rfl) rfl ?_
      exact pw_iret (aX9_step 66 rfl) hok2
set_option maxHeartbeats 4000000 in
set_option maxRecDepth 100000 in
theorem rX9_stepI_62 {sk : xK} {base N d : Nat}  (hkb : x_kb sk base) (MX9_performI : Option Nat → Int32 → Int32 → Int32 → Nat → Nat → (Nat → Nat × Nat) → (Nat → Nat → Int32) → (Nat → Nat → Int64) → (Nat → Nat → Option Nat) → Int32 → hS → Prop) (MX9_stepI : Option Nat → Int32 → Int32 → Int32 → Nat → Nat → (Nat → Nat × Nat) → (Nat → Nat → Int32) → (Nat → Nat → Int64) → (Nat → Nat → Option Nat) → Int32 → hS → Prop) (MX9_callI : Int64 → Int32 → Nat → Nat → (Nat → Nat × Nat) → (Nat → Nat → Int32) → (Nat → Nat → Int64) → (Nat → Nat → Option Nat) → Int32 → hS → Prop) (a1 : Option Nat) (a2 : Int32) (a3 : Int32) (a4 : Int32) (l5i : Int32) (l6i : Int32)  (n sl : Nat) (SH : Nat → Nat × Nat) (FI : Nat → Nat → Int32) (FL : Nat → Nat → Int64) (FR : Nat → Nat → Option Nat) (hok : pk n SH FR) (hMX9_performI : ∀ (a1 : Option Nat) (a2 : Int32) (a3 : Int32) (a4 : Int32) (n sl : Nat) (SH : Nat → Nat × Nat) (FI : Nat → Nat → Int32) (FL : Nat → Nat → Int64) (FR : Nat → Nat → Option Nat), pk n SH FR → ∀ d, pw pj_I sk base (N - 1) d none 87 0 [(0, .ref (base + 49)), (1, va_rf (h_rf base (a1))), (2, .int (a2)), (3, .int (a3)), (4, .int (a4))] [] (n, sl, SH, FI, FL, FR) (MX9_performI a1 a2 a3 a4 n sl SH FI FL FR)) (hMX9_stepI : ∀ (a1 : Option Nat) (a2 : Int32) (a3 : Int32) (a4 : Int32) (n sl : Nat) (SH : Nat → Nat × Nat) (FI : Nat → Nat → Int32) (FL : Nat → Nat → Int64) (FR : Nat → Nat → Option Nat), pk n SH FR → ∀ d, pw pj_I sk base (N - 1) d none 88 0 [(0, .ref (base + 49)), (1, va_rf (h_rf base (a1))), (2, .int (a2)), (3, .int (a3)), (4, .int (a4))] [] (n, sl, SH, FI, FL, FR) (MX9_stepI a1 a2 a3 a4 n sl SH FI FL FR)) (hMX9_callI : ∀ (a1 : Int64) (a2 : Int32) (n sl : Nat) (SH : Nat → Nat × Nat) (FI : Nat → Nat → Int32) (FL : Nat → Nat → Int64) (FR : Nat → Nat → Option Nat), pk n SH FR → ∀ d, pw pj_I sk base (N - 1) d none 97 0 [(0, .ref (base + 49)), (1, .long (a1)), (3, .int (a2))] [] (n, sl, SH, FI, FL, FR) (MX9_callI a1 a2 n sl SH FI FL FR))  : pw pj_I sk base N d none 88 62 [(0, .ref (base + 49)), (1, va_rf (h_rf base (a1))), (2, .int (a2)), (3, .int (a3)), (4, .int (a4)), (5, .int (l5i)), (6, .int (l6i))] [] (n, sl, SH, FI, FL, FR) (RX9_stepI_62  MX9_performI MX9_stepI MX9_callI a1 a2 a3 a4 l5i l6i n sl SH FI FL FR) := by
  unfold RX9_stepI_62
  refine pw_iload (aX9_step 35 rfl) rfl ?_
  refine pw_ifeq (tgt := 70) (aX9_step 36 rfl) (by decide) (fun b0 => ?_) (fun b0 => ?_)
  · skip
    refine pw_aloadn (aX9_step 39 rfl) rfl ?_
    refine pw_getr (v := .int (FI 49 10)) (aX9_step 40 rfl) uf_RX9_78 un_RX9_78 rfl ?_
    refine pw_istore (L2 := [(7, .int (FI 49 10)), (0, .ref (base + 49)), (1, va_rf (h_rf base (a1))), (2, .int (a2)), (3, .int (a3)), (4, .int (a4)), (5, .int (l5i)), (6, .int (l6i))]) (aX9_step 41 rfl) (by first | rfl | (simp [x_s1, x_s2, va_cat, va_ci, va_cl, va_cr, va_cn]; done) | (simp [x_s1, x_s2, va_cat, va_ci, va_cl, va_cr, va_cn]; decide)) ?_
    refine pw_iload (aX9_step 42 rfl) rfl ?_
    refine pw_bipush (v := (47 : Int32)) (aX9_step 43 rfl) rfl ?_
    refine pw_iceq (tgt := 90) (aX9_step 44 rfl) (by decide) (fun b1 => ?_) (fun b1 => ?_)
    · skip
      exact pw_Li (L2 := [(0, .ref (base + 49)), (1, va_rf (h_rf base (a1))), (2, .int (a2)), (3, .int (a3)), (4, .int (a4)), (5, .int (l5i)), (6, .int (l6i)), (7, .int (FI 49 10))]) [7, 0, 1, 2, 3, 4, 5, 6] (rX9_stepI_90 hkb MX9_performI MX9_stepI MX9_callI a1 a2 a3 a4 (l5i) (FI 49 10) (l6i) n sl SH FI FL FR hok (fun a1 a2 a3 a4 n sl SH FI FL FR ok d => pw_mono (hMX9_performI a1 a2 a3 a4 n sl SH FI FL FR ok d) (by omega)) (fun a1 a2 a3 a4 n sl SH FI FL FR ok d => pw_mono (hMX9_stepI a1 a2 a3 a4 n sl SH FI FL FR ok d) (by omega)) (fun a1 a2 n sl SH FI FL FR ok d => pw_mono (hMX9_callI a1 a2 n sl SH FI FL FR ok d) (by omega)) ) ⟨rfl, rfl, rfl, rfl, rfl, rfl, rfl, rfl, trivial⟩
    · skip
      refine pw_iload (aX9_step 45 rfl) rfl ?_
      refine pw_bipush (v := (40 : Int32)) (aX9_step 46 rfl) rfl ?_
      refine pw_icne (tgt := 125) (aX9_step 47 rfl) (by decide) (fun b2 => ?_) (fun b2 => ?_)
      · skip
        exact pw_Li (L2 := [(0, .ref (base + 49)), (1, va_rf (h_rf base (a1))), (2, .int (a2)), (3, .int (a3)), (4, .int (a4)), (5, .int (l5i)), (6, .int (l6i)), (7, .int (FI 49 10))]) [7, 0, 1, 2, 3, 4, 5, 6] (rX9_stepI_90 hkb MX9_performI MX9_stepI MX9_callI a1 a2 a3 a4 (l5i) (FI 49 10) (l6i) n sl SH FI FL FR hok (fun a1 a2 a3 a4 n sl SH FI FL FR ok d => pw_mono (hMX9_performI a1 a2 a3 a4 n sl SH FI FL FR ok d) (by omega)) (fun a1 a2 a3 a4 n sl SH FI FL FR ok d => pw_mono (hMX9_stepI a1 a2 a3 a4 n sl SH FI FL FR ok d) (by omega)) (fun a1 a2 n sl SH FI FL FR ok d => pw_mono (hMX9_callI a1 a2 n sl SH FI FL FR ok d) (by omega)) ) ⟨rfl, rfl, rfl, rfl, rfl, rfl, rfl, rfl, trivial⟩
      · skip
        refine pw_iload (aX9_step 67 rfl) rfl ?_
        refine pw_sipush (v := (152 : Int32)) (aX9_step 68 rfl) rfl ?_
        refine pw_iceq (tgt := 141) (aX9_step 69 rfl) (by decide) (fun b3 => ?_) (fun b3 => ?_)
        · skip
          refine pw_aloadn (aX9_step 73 rfl) rfl ?_
          refine pw_aloadn (aX9_step 74 rfl) rfl ?_
          refine pw_getr (v := .long (FL 49 12)) (aX9_step 75 rfl) uf_RX9_96 un_RX9_96 rfl ?_
          refine pw_iload (aX9_step 76 rfl) rfl ?_
          refine pw_callV (Bs := [.long (FL 49 12), .int (a4)]) (rest := []) (aX9_step 77 rfl) um_RX9_100 ujX9_call wc_RX9_100.2.2.2.2 (by decide) (by decide) rfl rfl (fun d => pw_mono (hMX9_callI (FL 49 12) (a4) n sl SH FI FL FR hok d) (by omega)) (fun v4 n4 sl4 SH4 FI4 FL4 FR4 hok4 _ => ?_)
          show pw _ _ _ _ _ _ _ 151 _ [.int (v4)] _ _
          refine pw_goto (tgt := 163) (aX9_step 78 rfl) (by decide) ?_
          refine pw_istore (L2 := [(6, .int (v4)), (7, .int (FI 49 10)), (0, .ref (base + 49)), (1, va_rf (h_rf base (a1))), (2, .int (a2)), (3, .int (a3)), (4, .int (a4)), (5, .int (l5i))]) (aX9_step 84 rfl) (by first | rfl | (simp [x_s1, x_s2, va_cat, va_ci, va_cl, va_cr, va_cn]; done) | (simp [x_s1, x_s2, va_cat, va_ci, va_cl, va_cr, va_cn]; decide)) ?_
          refine pw_aloadn (aX9_step 85 rfl) rfl ?_
          refine pw_iload (aX9_step 86 rfl) rfl ?_
          refine pw_putri (aX9_step 87 rfl) uf_RX9_75 (fun _ _ _ => rfl) (fun t6 => ?_)
          refine pw_iload (aX9_step 88 rfl) rfl ?_
          exact pw_iret (aX9_step 89 rfl) hok4
        · skip
          refine pw_iload (aX9_step 70 rfl) rfl ?_
          refine pw_sipush (v := (153 : Int32)) (aX9_step 71 rfl) rfl ?_
          refine pw_icne (tgt := 154) (aX9_step 72 rfl) (by decide) (fun b6 => ?_) (fun b6 => ?_)
          · skip
            refine pw_aloadn (aX9_step 73 rfl) rfl ?_
            refine pw_aloadn (aX9_step 74 rfl) rfl ?_
            refine pw_getr (v := .long (FL 49 12)) (aX9_step 75 rfl) uf_RX9_96 un_RX9_96 rfl ?_
            refine pw_iload (aX9_step 76 rfl) rfl ?_
            refine pw_callV (Bs := [.long (FL 49 12), .int (a4)]) (rest := []) (aX9_step 77 rfl) um_RX9_100 ujX9_call wc_RX9_100.2.2.2.2 (by decide) (by decide) rfl rfl (fun d => pw_mono (hMX9_callI (FL 49 12) (a4) n sl SH FI FL FR hok d) (by omega)) (fun v7 n7 sl7 SH7 FI7 FL7 FR7 hok7 _ => ?_)
            show pw _ _ _ _ _ _ _ 151 _ [.int (v7)] _ _
            refine pw_goto (tgt := 163) (aX9_step 78 rfl) (by decide) ?_
            refine pw_istore (L2 := [(6, .int (v7)), (7, .int (FI 49 10)), (0, .ref (base + 49)), (1, va_rf (h_rf base (a1))), (2, .int (a2)), (3, .int (a3)), (4, .int (a4)), (5, .int (l5i))]) (aX9_step 84 rfl) (by first | rfl | (simp [x_s1, x_s2, va_cat, va_ci, va_cl, va_cr, va_cn]; done) | (simp [x_s1, x_s2, va_cat, va_ci, va_cl, va_cr, va_cn]; decide)) ?_
            refine pw_aloadn (aX9_step 85 rfl) rfl ?_
            refine pw_iload (aX9_step 86 rfl) rfl ?_
            refine pw_putri (aX9_step 87 rfl) uf_RX9_75 (fun _ _ _ => rfl) (fun t9 => ?_)
            refine pw_iload (aX9_step 88 rfl) rfl ?_
            exact pw_iret (aX9_step 89 rfl) hok7
          · skip
            refine pw_aloadn (aX9_step 79 rfl) rfl ?_
            refine pw_iload (aX9_step 80 rfl) rfl ?_
            refine pw_aloadn (aX9_step 81 rfl) rfl ?_
            refine pw_iload (aX9_step 82 rfl) rfl ?_
            refine pw_callV (Bs := [.int (l5i), va_rf (h_rf base (a1)), .int (a4)]) (L2 := [(0, .ref (base + 49)), (1, .int (l5i)), (2, va_rf (h_rf base (a1))), (3, .int (a4))]) (rest := []) (aX9_step 83 rfl) um_RX9_104 ujX9_operate wc_RX9_104.2.2.2.2 (by decide) (by decide) rfl (by first | rfl | simp [lv_args, va_cat, va_ci, va_cl, va_cr, va_cn]) (fun d => rX9_operateI hkb (l5i) (a1) (a4) n sl SH FI FL FR hok) (fun v9 n9 sl9 SH9 FI9 FL9 FR9 hok9 _ => ?_)
            show pw _ _ _ _ _ _ _ 163 _ [.int (v9)] _ _
            refine pw_istore (L2 := [(6, .int (v9)), (7, .int (FI 49 10)), (0, .ref (base + 49)), (1, va_rf (h_rf base (a1))), (2, .int (a2)), (3, .int (a3)), (4, .int (a4)), (5, .int (l5i))]) (aX9_step 84 rfl) (by first | rfl | (simp [x_s1, x_s2, va_cat, va_ci, va_cl, va_cr, va_cn]; done) | (simp [x_s1, x_s2, va_cat, va_ci, va_cl, va_cr, va_cn]; decide)) ?_
            refine pw_aloadn (aX9_step 85 rfl) rfl ?_
            refine pw_iload (aX9_step 86 rfl) rfl ?_
            refine pw_putri (aX9_step 87 rfl) uf_RX9_75 (fun _ _ _ => rfl) (fun t11 => ?_)
            refine pw_iload (aX9_step 88 rfl) rfl ?_
            exact pw_iret (aX9_step 89 rfl) hok9
  · skip
    refine pw_iload (aX9_step 37 rfl) rfl ?_
    exact pw_iret (aX9_step 38 rfl) hok
set_option maxHeartbeats 4000000 in
set_option maxRecDepth 100000 in
theorem rX9_stepI {sk : xK} {base N d : Nat} (hkb : x_kb sk base) (MX9_performI : Option Nat → Int32 → Int32 → Int32 → Nat → Nat → (Nat → Nat × Nat) → (Nat → Nat → Int32) → (Nat → Nat → Int64) → (Nat → Nat → Option Nat) → Int32 → hS → Prop) (MX9_stepI : Option Nat → Int32 → Int32 → Int32 → Nat → Nat → (Nat → Nat × Nat) → (Nat → Nat → Int32) → (Nat → Nat → Int64) → (Nat → Nat → Option Nat) → Int32 → hS → Prop) (MX9_callI : Int64 → Int32 → Nat → Nat → (Nat → Nat × Nat) → (Nat → Nat → Int32) → (Nat → Nat → Int64) → (Nat → Nat → Option Nat) → Int32 → hS → Prop) (a1 : Option Nat) (a2 : Int32) (a3 : Int32) (a4 : Int32) (n sl : Nat) (SH : Nat → Nat × Nat) (FI : Nat → Nat → Int32) (FL : Nat → Nat → Int64) (FR : Nat → Nat → Option Nat) (hok : pk n SH FR) (hMX9_performI : ∀ (a1 : Option Nat) (a2 : Int32) (a3 : Int32) (a4 : Int32) (n sl : Nat) (SH : Nat → Nat × Nat) (FI : Nat → Nat → Int32) (FL : Nat → Nat → Int64) (FR : Nat → Nat → Option Nat), pk n SH FR → ∀ d, pw pj_I sk base (N - 1) d none 87 0 [(0, .ref (base + 49)), (1, va_rf (h_rf base (a1))), (2, .int (a2)), (3, .int (a3)), (4, .int (a4))] [] (n, sl, SH, FI, FL, FR) (MX9_performI a1 a2 a3 a4 n sl SH FI FL FR)) (hMX9_stepI : ∀ (a1 : Option Nat) (a2 : Int32) (a3 : Int32) (a4 : Int32) (n sl : Nat) (SH : Nat → Nat × Nat) (FI : Nat → Nat → Int32) (FL : Nat → Nat → Int64) (FR : Nat → Nat → Option Nat), pk n SH FR → ∀ d, pw pj_I sk base (N - 1) d none 88 0 [(0, .ref (base + 49)), (1, va_rf (h_rf base (a1))), (2, .int (a2)), (3, .int (a3)), (4, .int (a4))] [] (n, sl, SH, FI, FL, FR) (MX9_stepI a1 a2 a3 a4 n sl SH FI FL FR)) (hMX9_callI : ∀ (a1 : Int64) (a2 : Int32) (n sl : Nat) (SH : Nat → Nat × Nat) (FI : Nat → Nat → Int32) (FL : Nat → Nat → Int64) (FR : Nat → Nat → Option Nat), pk n SH FR → ∀ d, pw pj_I sk base (N - 1) d none 97 0 [(0, .ref (base + 49)), (1, .long (a1)), (3, .int (a2))] [] (n, sl, SH, FI, FL, FR) (MX9_callI a1 a2 n sl SH FI FL FR)) : pw pj_I sk base N d none 88 0 [(0, .ref (base + 49)), (1, va_rf (h_rf base (a1))), (2, .int (a2)), (3, .int (a3)), (4, .int (a4))] [] (n, sl, SH, FI, FL, FR) (RX9_stepI MX9_performI MX9_stepI MX9_callI a1 a2 a3 a4 n sl SH FI FL FR) := by
  unfold RX9_stepI
  refine pw_aloadn (aX9_step 0 rfl) rfl ?_
  refine pw_getr (v := .int (FI 49 7)) (aX9_step 1 rfl) uf_RX9_56 un_RX9_56 rfl ?_
  refine pw_aloadn (aX9_step 2 rfl) rfl ?_
  refine pw_getr (v := .int (FI 49 6)) (aX9_step 3 rfl) uf_RX9_53 un_RX9_53 rfl ?_
  refine pw_iclt (tgt := 14) (aX9_step 4 rfl) (by decide) (fun b0 => ?_) (fun b0 => ?_)
  · skip
    refine pw_aloadn (aX9_step 7 rfl) rfl ?_
    refine pw_dup (aX9_step 8 rfl) ?_
    refine pw_getr (v := .int (FI 49 7)) (aX9_step 9 rfl) uf_RX9_56 un_RX9_56 rfl ?_
    refine pw_iconst (v := (1 : Int32)) (aX9_step 10 rfl) rfl ?_
    refine pw_iadd (aX9_step 11 rfl) ?_
    refine pw_putri (aX9_step 12 rfl) uf_RX9_56 (fun _ _ _ => rfl) (fun t2 => ?_)
    refine pw_aloadn (aX9_step 13 rfl) rfl ?_
    refine pw_iloadn (aX9_step 14 rfl) rfl ?_
    refine pw_iald (ix := (a2).toInt.toNat) (o := a1) (aX9_step 15 rfl) rfl (fun c3 hc3 _ gc3 => ?_)
    refine pw_istore (L2 := [(5, .int ((h_up FI 49 7 ((FI 49 7) + ((1 : Int32)))) c3 (a2).toInt.toNat)), (0, .ref (base + 49)), (1, va_rf (h_rf base (a1))), (2, .int (a2)), (3, .int (a3)), (4, .int (a4))]) (aX9_step 16 rfl) (by first | rfl | (simp [x_s1, x_s2, va_cat, va_ci, va_cl, va_cr, va_cn]; done) | (simp [x_s1, x_s2, va_cat, va_ci, va_cl, va_cr, va_cn]; decide)) ?_
    refine pw_aloadn (aX9_step 17 rfl) rfl ?_
    refine pw_iloadn (aX9_step 18 rfl) rfl ?_
    refine pw_iconst (v := (1 : Int32)) (aX9_step 19 rfl) rfl ?_
    refine pw_iadd (aX9_step 20 rfl) ?_
    refine pw_putri (aX9_step 21 rfl) uf_RX9_78 (fun _ _ _ => rfl) (fun t4 => ?_)
    refine pw_aloadn (aX9_step 22 rfl) rfl ?_
    refine pw_aloadn (aX9_step 23 rfl) rfl ?_
    refine pw_iloadn (aX9_step 24 rfl) rfl ?_
    refine pw_iload (aX9_step 25 rfl) rfl ?_
    refine pw_callS (As := [.int ((h_up FI 49 7 ((FI 49 7) + ((1 : Int32)))) c3 (a2).toInt.toNat)]) (rest := [.int (a3), va_rf (h_rf base (a1)), .ref (base + 49)]) (aX9_step 26 rfl) um_RX9_81 ujX9_shape wc_RX9_81.2.2.2.2 (by decide) rfl rfl (fun d => rX9_shape hkb ((h_up FI 49 7 ((FI 49 7) + ((1 : Int32)))) c3 (a2).toInt.toNat) n sl SH (h_up (h_up FI 49 7 ((FI 49 7) + ((1 : Int32)))) 49 10 ((a2) + ((1 : Int32)))) FL FR hok) (fun v4 n4 sl4 SH4 FI4 FL4 FR4 hok4 _ => ?_)
    show pw _ _ _ _ _ _ _ 44 _ [.int (v4), .int (a3), va_rf (h_rf base (a1)), .ref (base + 49)] _ _
    refine pw_callV (Bs := [va_rf (h_rf base (a1)), .int (a3), .int (v4)]) (L2 := [(0, .ref (base + 49)), (1, va_rf (h_rf base (a1))), (2, .int (a3)), (3, .int (v4))]) (rest := []) (aX9_step 27 rfl) um_RX9_85 ujX9_readOperands wc_RX9_85.2.2.2.2 (by decide) (by decide) rfl (by first | rfl | simp [lv_args, va_cat, va_ci, va_cl, va_cr, va_cn]) (fun d => rX9_readOperandsI hkb (a1) (a3) (v4) n4 sl4 SH4 FI4 FL4 FR4 hok4) (fun v5 n5 sl5 SH5 FI5 FL5 FR5 hok5 _ => ?_)
    show pw _ _ _ _ _ _ _ 47 _ [.int (v5)] _ _
    refine pw_istore (L2 := [(6, .int (v5)), (5, .int ((h_up FI 49 7 ((FI 49 7) + ((1 : Int32)))) c3 (a2).toInt.toNat)), (0, .ref (base + 49)), (1, va_rf (h_rf base (a1))), (2, .int (a2)), (3, .int (a3)), (4, .int (a4))]) (aX9_step 28 rfl) (by first | rfl | (simp [x_s1, x_s2, va_cat, va_ci, va_cl, va_cr, va_cn]; done) | (simp [x_s1, x_s2, va_cat, va_ci, va_cl, va_cr, va_cn]; decide)) ?_
    refine pw_iload (aX9_step 29 rfl) rfl ?_
    refine pw_ifne (tgt := 62) (aX9_step 30 rfl) (by decide) (fun b6 => ?_) (fun b6 => ?_)
    · skip
      refine pw_aloadn (aX9_step 31 rfl) rfl ?_
      refine pw_iload (aX9_step 32 rfl) rfl ?_
      refine pw_callV (Bs := [.int ((h_up FI 49 7 ((FI 49 7) + ((1 : Int32)))) c3 (a2).toInt.toNat)]) (rest := []) (aX9_step 33 rfl) um_RX9_89 ujX9_check wc_RX9_89.2.2.2.2 (by decide) (by decide) rfl rfl (fun d => rX9_checkI hkb ((h_up FI 49 7 ((FI 49 7) + ((1 : Int32)))) c3 (a2).toInt.toNat) n5 sl5 SH5 FI5 FL5 FR5 hok5) (fun v7 n7 sl7 SH7 FI7 FL7 FR7 hok7 _ => ?_)
      show pw _ _ _ _ _ _ _ 60 _ [.int (v7)] _ _
      refine pw_istore (L2 := [(6, .int (v7)), (5, .int ((h_up FI 49 7 ((FI 49 7) + ((1 : Int32)))) c3 (a2).toInt.toNat)), (0, .ref (base + 49)), (1, va_rf (h_rf base (a1))), (2, .int (a2)), (3, .int (a3)), (4, .int (a4))]) (aX9_step 34 rfl) (by first | rfl | (simp [x_s1, x_s2, va_cat, va_ci, va_cl, va_cr, va_cn]; done) | (simp [x_s1, x_s2, va_cat, va_ci, va_cl, va_cr, va_cn]; decide)) ?_
      exact pw_Li (L2 := [(0, .ref (base + 49)), (1, va_rf (h_rf base (a1))), (2, .int (a2)), (3, .int (a3)), (4, .int (a4)), (5, .int ((h_up FI 49 7 ((FI 49 7) + ((1 : Int32)))) c3 (a2).toInt.toNat)), (6, .int (v7))]) [6, 5, 0, 1, 2, 3, 4] (rX9_stepI_62 hkb MX9_performI MX9_stepI MX9_callI a1 a2 a3 a4 ((h_up FI 49 7 ((FI 49 7) + ((1 : Int32)))) c3 (a2).toInt.toNat) (v7) n7 sl7 SH7 FI7 FL7 FR7 hok7 (fun a1 a2 a3 a4 n sl SH FI FL FR ok d => pw_mono (hMX9_performI a1 a2 a3 a4 n sl SH FI FL FR ok d) (by omega)) (fun a1 a2 a3 a4 n sl SH FI FL FR ok d => pw_mono (hMX9_stepI a1 a2 a3 a4 n sl SH FI FL FR ok d) (by omega)) (fun a1 a2 n sl SH FI FL FR ok d => pw_mono (hMX9_callI a1 a2 n sl SH FI FL FR ok d) (by omega)) ) ⟨rfl, rfl, rfl, rfl, rfl, rfl, rfl, trivial⟩
    · skip
      exact pw_Li (L2 := [(0, .ref (base + 49)), (1, va_rf (h_rf base (a1))), (2, .int (a2)), (3, .int (a3)), (4, .int (a4)), (5, .int ((h_up FI 49 7 ((FI 49 7) + ((1 : Int32)))) c3 (a2).toInt.toNat)), (6, .int (v5))]) [6, 5, 0, 1, 2, 3, 4] (rX9_stepI_62 hkb MX9_performI MX9_stepI MX9_callI a1 a2 a3 a4 ((h_up FI 49 7 ((FI 49 7) + ((1 : Int32)))) c3 (a2).toInt.toNat) (v5) n5 sl5 SH5 FI5 FL5 FR5 hok5 (fun a1 a2 a3 a4 n sl SH FI FL FR ok d => pw_mono (hMX9_performI a1 a2 a3 a4 n sl SH FI FL FR ok d) (by omega)) (fun a1 a2 a3 a4 n sl SH FI FL FR ok d => pw_mono (hMX9_stepI a1 a2 a3 a4 n sl SH FI FL FR ok d) (by omega)) (fun a1 a2 n sl SH FI FL FR ok d => pw_mono (hMX9_callI a1 a2 n sl SH FI FL FR ok d) (by omega)) ) ⟨rfl, rfl, rfl, rfl, rfl, rfl, rfl, trivial⟩
  · skip
    refine pw_bipush (v := (12 : Int32)) (aX9_step 5 rfl) rfl ?_
    exact pw_iret (aX9_step 6 rfl) hok
set_option maxHeartbeats 4000000 in
set_option maxRecDepth 100000 in
theorem rX9_callI {sk : xK} {base N d : Nat} (hkb : x_kb sk base) (MX9_performI : Option Nat → Int32 → Int32 → Int32 → Nat → Nat → (Nat → Nat × Nat) → (Nat → Nat → Int32) → (Nat → Nat → Int64) → (Nat → Nat → Option Nat) → Int32 → hS → Prop) (MX9_stepI : Option Nat → Int32 → Int32 → Int32 → Nat → Nat → (Nat → Nat × Nat) → (Nat → Nat → Int32) → (Nat → Nat → Int64) → (Nat → Nat → Option Nat) → Int32 → hS → Prop) (MX9_callI : Int64 → Int32 → Nat → Nat → (Nat → Nat × Nat) → (Nat → Nat → Int32) → (Nat → Nat → Int64) → (Nat → Nat → Option Nat) → Int32 → hS → Prop) (a1 : Int64) (a2 : Int32) (n sl : Nat) (SH : Nat → Nat × Nat) (FI : Nat → Nat → Int32) (FL : Nat → Nat → Int64) (FR : Nat → Nat → Option Nat) (hok : pk n SH FR) (hMX9_performI : ∀ (a1 : Option Nat) (a2 : Int32) (a3 : Int32) (a4 : Int32) (n sl : Nat) (SH : Nat → Nat × Nat) (FI : Nat → Nat → Int32) (FL : Nat → Nat → Int64) (FR : Nat → Nat → Option Nat), pk n SH FR → ∀ d, pw pj_I sk base (N - 1) d none 87 0 [(0, .ref (base + 49)), (1, va_rf (h_rf base (a1))), (2, .int (a2)), (3, .int (a3)), (4, .int (a4))] [] (n, sl, SH, FI, FL, FR) (MX9_performI a1 a2 a3 a4 n sl SH FI FL FR)) (hMX9_stepI : ∀ (a1 : Option Nat) (a2 : Int32) (a3 : Int32) (a4 : Int32) (n sl : Nat) (SH : Nat → Nat × Nat) (FI : Nat → Nat → Int32) (FL : Nat → Nat → Int64) (FR : Nat → Nat → Option Nat), pk n SH FR → ∀ d, pw pj_I sk base (N - 1) d none 88 0 [(0, .ref (base + 49)), (1, va_rf (h_rf base (a1))), (2, .int (a2)), (3, .int (a3)), (4, .int (a4))] [] (n, sl, SH, FI, FL, FR) (MX9_stepI a1 a2 a3 a4 n sl SH FI FL FR)) (hMX9_callI : ∀ (a1 : Int64) (a2 : Int32) (n sl : Nat) (SH : Nat → Nat × Nat) (FI : Nat → Nat → Int32) (FL : Nat → Nat → Int64) (FR : Nat → Nat → Option Nat), pk n SH FR → ∀ d, pw pj_I sk base (N - 1) d none 97 0 [(0, .ref (base + 49)), (1, .long (a1)), (3, .int (a2))] [] (n, sl, SH, FI, FL, FR) (MX9_callI a1 a2 n sl SH FI FL FR)) : pw pj_I sk base N d none 97 0 [(0, .ref (base + 49)), (1, .long (a1)), (3, .int (a2))] [] (n, sl, SH, FI, FL, FR) (RX9_callI MX9_performI MX9_stepI MX9_callI a1 a2 n sl SH FI FL FR) := by
  unfold RX9_callI
  refine pw_lloadn (aX9_call 0 rfl) rfl ?_
  refine pw_lconst (v := (0 : Int64)) (aX9_call 1 rfl) rfl ?_
  refine pw_lclt (tgt := 26) (aX9_call 2 rfl) (aX9_call 3 rfl) (by decide) (fun b0 => ?_) (fun b0 => ?_)
  · skip
    refine pw_bipush (v := (8 : Int32)) (aX9_call 15 rfl) rfl ?_
    exact pw_iret (aX9_call 16 rfl) hok
  · skip
    refine pw_lloadn (aX9_call 4 rfl) rfl ?_
    refine pw_aloadn (aX9_call 5 rfl) rfl ?_
    refine pw_getr (v := .ref (base + 23)) (aX9_call 6 rfl) uf_RX9_29 un_RX9_29 (congrArg (fun r => va_rf (h_rf base r)) (q49_0 (hok).2.1)) ?_
    refine pw_getr (v := .ref (base + 26)) (aX9_call 7 rfl) uf_RX9_154 un_RX9_154 (congrArg (fun r => va_rf (h_rf base r)) (q23_2 (hok).2.1)) ?_
    refine pw_alenr hkb (c := 26) (aX9_call 8 rfl) ?_
    refine pw_i2l (aX9_call 9 rfl) ?_
    refine pw_lcge (tgt := 26) (aX9_call 10 rfl) (aX9_call 11 rfl) (by decide) (fun b1 => ?_) (fun b1 => ?_)
    · skip
      refine pw_iloadn (aX9_call 12 rfl) rfl ?_
      refine pw_bipush (v := (8 : Int32)) (aX9_call 13 rfl) rfl ?_
      refine pw_iclt (tgt := 29) (aX9_call 14 rfl) (by decide) (fun b2 => ?_) (fun b2 => ?_)
      · skip
        refine pw_aloadn (aX9_call 17 rfl) rfl ?_
        refine pw_getr (v := .ref (base + 23)) (aX9_call 18 rfl) uf_RX9_29 un_RX9_29 (congrArg (fun r => va_rf (h_rf base r)) (q49_0 (hok).2.1)) ?_
        refine pw_getr (v := .ref (base + 26)) (aX9_call 19 rfl) uf_RX9_154 un_RX9_154 (congrArg (fun r => va_rf (h_rf base r)) (q23_2 (hok).2.1)) ?_
        refine pw_lloadn (aX9_call 20 rfl) rfl ?_
        refine pw_l2i (aX9_call 21 rfl) ?_
        refine pw_aaldr (c := 26) (ix := ((a1).toInt32).toInt.toNat) (aX9_call 22 rfl) rfl (fun _ => ?_)
        refine pw_astore (L2 := [(4, va_rf (h_rf base (FR 26 ((a1).toInt32).toInt.toNat))), (0, .ref (base + 49)), (1, .long (a1)), (3, .int (a2))]) (aX9_call 23 rfl) (by first | rfl | (simp [x_s1, x_s2, va_cat, va_ci, va_cl, va_cr, va_cn]; done) | (simp [x_s1, x_s2, va_cat, va_ci, va_cl, va_cr, va_cn]; decide)) ?_
        refine pw_aloadn (aX9_call 24 rfl) rfl ?_
        refine pw_aload (aX9_call 25 rfl) rfl ?_
        refine pw_iconst (v := (0 : Int32)) (aX9_call 26 rfl) rfl ?_
        refine pw_aload (aX9_call 27 rfl) rfl ?_
        refine pw_alen hkb (o := FR 26 ((a1).toInt32).toInt.toNat) (aX9_call 28 rfl) (fun c4 hc4 _ => ?_)
        refine pw_iloadn (aX9_call 29 rfl) rfl ?_
        refine pw_iconst (v := (1 : Int32)) (aX9_call 30 rfl) rfl ?_
        refine pw_iadd (aX9_call 31 rfl) ?_
        refine pw_callV (Bs := [va_rf (h_rf base (FR 26 ((a1).toInt32).toInt.toNat)), .int ((0 : Int32)), .int (Int32.ofNat (SH c4).2), .int ((a2) + ((1 : Int32)))]) (L2 := [(0, .ref (base + 49)), (1, va_rf (h_rf base (FR 26 ((a1).toInt32).toInt.toNat))), (2, .int ((0 : Int32))), (3, .int (Int32.ofNat (SH c4).2)), (4, .int ((a2) + ((1 : Int32))))]) (rest := []) (aX9_call 32 rfl) um_RX9_41 ujX9_perform wc_RX9_41.2.2.2.2 (by decide) (by decide) rfl (by first | rfl | simp [lv_args, va_cat, va_ci, va_cl, va_cr, va_cn]) (fun d => pw_mono (hMX9_performI (FR 26 ((a1).toInt32).toInt.toNat) ((0 : Int32)) (Int32.ofNat (SH c4).2) ((a2) + ((1 : Int32))) n sl SH FI FL FR hok d) (by omega)) (fun v4 n4 sl4 SH4 FI4 FL4 FR4 hok4 _ => ?_)
        show pw _ _ _ _ _ _ _ 54 _ [.int (v4)] _ _
        exact pw_iret (aX9_call 33 rfl) hok4
      · skip
        refine pw_bipush (v := (8 : Int32)) (aX9_call 15 rfl) rfl ?_
        exact pw_iret (aX9_call 16 rfl) hok
    · skip
      refine pw_bipush (v := (8 : Int32)) (aX9_call 15 rfl) rfl ?_
      exact pw_iret (aX9_call 16 rfl) hok
theorem qX9I {sk : xK} {base : Nat} (hkb : x_kb sk base) (N : Nat) : (∀ (a1 : Option Nat) (a2 : Int32) (a3 : Int32) (a4 : Int32) (n sl : Nat) (SH : Nat → Nat × Nat) (FI : Nat → Nat → Int32) (FL : Nat → Nat → Int64) (FR : Nat → Nat → Option Nat), pk n SH FR → ∀ d, pw pj_I sk base N d none 87 0 [(0, .ref (base + 49)), (1, va_rf (h_rf base (a1))), (2, .int (a2)), (3, .int (a3)), (4, .int (a4))] [] (n, sl, SH, FI, FL, FR) (QX9I (N + 1) 0 a1 a2 a3 a4 0 n sl SH FI FL FR)) ∧ (∀ (a1 : Option Nat) (a2 : Int32) (a3 : Int32) (a4 : Int32) (n sl : Nat) (SH : Nat → Nat × Nat) (FI : Nat → Nat → Int32) (FL : Nat → Nat → Int64) (FR : Nat → Nat → Option Nat), pk n SH FR → ∀ d, pw pj_I sk base N d none 88 0 [(0, .ref (base + 49)), (1, va_rf (h_rf base (a1))), (2, .int (a2)), (3, .int (a3)), (4, .int (a4))] [] (n, sl, SH, FI, FL, FR) (QX9I (N + 1) 1 a1 a2 a3 a4 0 n sl SH FI FL FR)) ∧ (∀ (a1 : Int64) (a2 : Int32) (n sl : Nat) (SH : Nat → Nat × Nat) (FI : Nat → Nat → Int32) (FL : Nat → Nat → Int64) (FR : Nat → Nat → Option Nat), pk n SH FR → ∀ d, pw pj_I sk base N d none 97 0 [(0, .ref (base + 49)), (1, .long (a1)), (3, .int (a2))] [] (n, sl, SH, FI, FL, FR) (QX9I (N + 1) 2 none a2 0 0 a1 n sl SH FI FL FR)) := by
  induction N with
  | zero => exact ⟨by intros; exact pw_0, by intros; exact pw_0, by intros; exact pw_0⟩
  | succ N ih => exact ⟨fun a1 a2 a3 a4 n sl SH FI FL FR hok d => rX9_performI (N := N + 1) hkb _ _ _ a1 a2 a3 a4 n sl SH FI FL FR hok ih.1 ih.2.1 ih.2.2, fun a1 a2 a3 a4 n sl SH FI FL FR hok d => rX9_stepI (N := N + 1) hkb _ _ _ a1 a2 a3 a4 n sl SH FI FL FR hok ih.1 ih.2.1 ih.2.2, fun a1 a2 n sl SH FI FL FR hok d => rX9_callI (N := N + 1) hkb _ _ _ a1 a2 n sl SH FI FL FR hok ih.1 ih.2.1 ih.2.2⟩
theorem rX9_performI_ {sk : xK} {base N d : Nat} (hkb : x_kb sk base) (a1 : Option Nat) (a2 : Int32) (a3 : Int32) (a4 : Int32) (n sl : Nat) (SH : Nat → Nat × Nat) (FI : Nat → Nat → Int32) (FL : Nat → Nat → Int64) (FR : Nat → Nat → Option Nat) (hok : pk n SH FR) : pw pj_I sk base N d none 87 0 [(0, .ref (base + 49)), (1, va_rf (h_rf base (a1))), (2, .int (a2)), (3, .int (a3)), (4, .int (a4))] [] (n, sl, SH, FI, FL, FR) (RX9_performI_ a1 a2 a3 a4 n sl SH FI FL FR) := pw_cons ((qX9I hkb N).1 a1 a2 a3 a4 n sl SH FI FL FR hok d) (fun _ _ h => ⟨_, h⟩)
theorem rX9_stepI_ {sk : xK} {base N d : Nat} (hkb : x_kb sk base) (a1 : Option Nat) (a2 : Int32) (a3 : Int32) (a4 : Int32) (n sl : Nat) (SH : Nat → Nat × Nat) (FI : Nat → Nat → Int32) (FL : Nat → Nat → Int64) (FR : Nat → Nat → Option Nat) (hok : pk n SH FR) : pw pj_I sk base N d none 88 0 [(0, .ref (base + 49)), (1, va_rf (h_rf base (a1))), (2, .int (a2)), (3, .int (a3)), (4, .int (a4))] [] (n, sl, SH, FI, FL, FR) (RX9_stepI_ a1 a2 a3 a4 n sl SH FI FL FR) := pw_cons ((qX9I hkb N).2.1 a1 a2 a3 a4 n sl SH FI FL FR hok d) (fun _ _ h => ⟨_, h⟩)
theorem rX9_callI_ {sk : xK} {base N d : Nat} (hkb : x_kb sk base) (a1 : Int64) (a2 : Int32) (n sl : Nat) (SH : Nat → Nat × Nat) (FI : Nat → Nat → Int32) (FL : Nat → Nat → Int64) (FR : Nat → Nat → Option Nat) (hok : pk n SH FR) : pw pj_I sk base N d none 97 0 [(0, .ref (base + 49)), (1, .long (a1)), (3, .int (a2))] [] (n, sl, SH, FI, FL, FR) (RX9_callI_ a1 a2 n sl SH FI FL FR) := pw_cons ((qX9I hkb N).2.2 a1 a2 n sl SH FI FL FR hok d) (fun _ _ h => ⟨_, h⟩)
set_option maxHeartbeats 4000000 in
set_option maxRecDepth 100000 in
theorem rX9_reset {sk : xK} {base N d : Nat} (hkb : x_kb sk base) (a1 : Int32) (a2 : Int32) (n sl : Nat) (SH : Nat → Nat × Nat) (FI : Nat → Nat → Int32) (FL : Nat → Nat → Int64) (FR : Nat → Nat → Option Nat) (hok : pk n SH FR)  : pw pj_V sk base N d none 86 0 [(0, .ref (base + 48)), (1, .int (a1)), (2, .int (a2))] [] (n, sl, SH, FI, FL, FR) (RX9_reset a1 a2 n sl SH FI FL FR) := by
  unfold RX9_reset
  refine pw_aloadn (aX9_reset 0 rfl) rfl ?_
  refine pw_iloadn (aX9_reset 1 rfl) rfl ?_
  refine pw_putri (aX9_reset 2 rfl) uf_RX9_53 (fun _ _ _ => rfl) (fun t1 => ?_)
  refine pw_aloadn (aX9_reset 3 rfl) rfl ?_
  refine pw_iloadn (aX9_reset 4 rfl) rfl ?_
  refine pw_putri (aX9_reset 5 rfl) uf_RX9_56 (fun _ _ _ => rfl) (fun t2 => ?_)
  refine pw_aloadn (aX9_reset 6 rfl) rfl ?_
  refine pw_iconst (v := (0 : Int32)) (aX9_reset 7 rfl) rfl ?_
  refine pw_putri (aX9_reset 8 rfl) uf_RX9_59 (fun _ _ _ => rfl) (fun t3 => ?_)
  refine pw_aloadn (aX9_reset 9 rfl) rfl ?_
  refine pw_iconst (v := (0 : Int32)) (aX9_reset 10 rfl) rfl ?_
  refine pw_putri (aX9_reset 11 rfl) uf_RX9_62 (fun _ _ _ => rfl) (fun t4 => ?_)
  refine pw_aloadn (aX9_reset 12 rfl) rfl ?_
  refine pw_getr (v := .ref (base + 71)) (aX9_reset 13 rfl) uf_RX9_18 un_RX9_18 (congrArg (fun r => va_rf (h_rf base r)) (q48_3 (hok).2.1)) ?_
  refine pw_iconst (v := (0 : Int32)) (aX9_reset 14 rfl) rfl ?_
  refine pw_lconst (v := (0 : Int64)) (aX9_reset 15 rfl) rfl ?_
  refine pw_callV (Bs := [.int ((0 : Int32)), .long ((0 : Int64))]) (rest := []) (aX9_reset 16 rfl) um_RX9_65 ujX5_become wc_RX9_65.2.2.2.2 (by decide) (by decide) rfl rfl (fun d => rX5_become hkb 71 ((0 : Int32)) ((0 : Int64)) n sl SH (h_up (h_up (h_up (h_up FI 48 6 (a1)) 48 7 (a2)) 48 8 ((0 : Int32))) 48 5 ((0 : Int32))) FL FR hok) (fun v4 n4 sl4 SH4 FI4 FL4 FR4 hok4 _ => ?_)
  show pw _ _ _ _ _ _ _ 29 _ [] _ _
  refine pw_aloadn (aX9_reset 17 rfl) rfl ?_
  refine pw_getr (v := .ref (base + 72)) (aX9_reset 18 rfl) uf_RX9_25 un_RX9_25 (congrArg (fun r => va_rf (h_rf base r)) (q48_4 (hok4).2.1)) ?_
  refine pw_callV (Bs := []) (rest := []) (aX9_reset 19 rfl) um_RX9_69 ujX8_clear wc_RX9_69.2.2.2.2 (by decide) (by decide) rfl rfl (fun d => rX8_clear hkb 72 n4 sl4 SH4 FI4 FL4 FR4 hok4) (fun v5 n5 sl5 SH5 FI5 FL5 FR5 hok5 _ => ?_)
  show pw _ _ _ _ _ _ _ 36 _ [] _ _
  exact pw_vret (aX9_reset 20 rfl) hok5
set_option maxHeartbeats 4000000 in
set_option maxRecDepth 100000 in
theorem rX9_readNumber_14 {sk : xK} {base N d : Nat}  (hkb : x_kb sk base) (a1 : Option Nat) (a2 : Int32) (a3 : Int32) (s0i : Int32)  (n sl : Nat) (SH : Nat → Nat × Nat) (FI : Nat → Nat → Int32) (FL : Nat → Nat → Int64) (FR : Nat → Nat → Option Nat) (hok : pk n SH FR)   : pw pj_I sk base N d none 91 14 [(0, .ref (base + 48)), (1, va_rf (h_rf base (a1))), (2, .int (a2)), (3, .int (a3))] [.int (s0i)] (n, sl, SH, FI, FL, FR) (RX9_readNumber_14  a1 a2 a3 s0i n sl SH FI FL FR) := by
  unfold RX9_readNumber_14
  refine pw_istore (L2 := [(4, .int (s0i)), (0, .ref (base + 48)), (1, va_rf (h_rf base (a1))), (2, .int (a2)), (3, .int (a3))]) (aX9_readNumber 8 rfl) (by first | rfl | (simp [x_s1, x_s2, va_cat, va_ci, va_cl, va_cr, va_cn]; done) | (simp [x_s1, x_s2, va_cat, va_ci, va_cl, va_cr, va_cn]; decide)) ?_
  refine pw_iloadn (aX9_readNumber 9 rfl) rfl ?_
  refine pw_aloadn (aX9_readNumber 10 rfl) rfl ?_
  refine pw_getr (v := .int (FI 48 10)) (aX9_readNumber 11 rfl) uf_RX9_78 un_RX9_78 rfl ?_
  refine pw_isub (aX9_readNumber 12 rfl) ?_
  refine pw_iload (aX9_readNumber 13 rfl) rfl ?_
  refine pw_icge (tgt := 29) (aX9_readNumber 14 rfl) (by decide) (fun b0 => ?_) (fun b0 => ?_)
  · skip
    refine pw_iconst (v := (1 : Int32)) (aX9_readNumber 15 rfl) rfl ?_
    exact pw_iret (aX9_readNumber 16 rfl) hok
  · skip
    refine pw_aloadn (aX9_readNumber 17 rfl) rfl ?_
    refine pw_aloadn (aX9_readNumber 18 rfl) rfl ?_
    refine pw_aloadn (aX9_readNumber 19 rfl) rfl ?_
    refine pw_getr (v := .int (FI 48 10)) (aX9_readNumber 20 rfl) uf_RX9_78 un_RX9_78 rfl ?_
    refine pw_iload (aX9_readNumber 21 rfl) rfl ?_
    refine pw_callS (As := [va_rf (h_rf base (a1)), .int (FI 48 10), .int (s0i)]) (L2 := [(0, va_rf (h_rf base (a1))), (1, .int (FI 48 10)), (2, .int (s0i))]) (rest := [.ref (base + 48)]) (aX9_readNumber 22 rfl) um_RX9_121 ujX11_number wc_RX9_121.2.2.2.2 (by decide) rfl (by first | rfl | simp [lv_args, va_cat, va_ci, va_cl, va_cr, va_cn]) (fun d => rX11_number hkb (a1) (FI 48 10) (s0i) n sl SH FI FL FR hok) (fun v1 n1 sl1 SH1 FI1 FL1 FR1 hok1 _ => ?_)
    show pw _ _ _ _ _ _ _ 40 _ [.long (v1), .ref (base + 48)] _ _
    refine pw_putrl (aX9_readNumber 23 rfl) uf_RX9_96 (fun _ _ _ => rfl) (fun t3 => ?_)
    refine pw_iloadn (aX9_readNumber 24 rfl) rfl ?_
    refine pw_bipush (v := (10 : Int32)) (aX9_readNumber 25 rfl) rfl ?_
    refine pw_icle (tgt := 73) (aX9_readNumber 26 rfl) (by decide) (fun b3 => ?_) (fun b3 => ?_)
    · skip
      refine pw_bipush (v := (64 : Int32)) (aX9_readNumber 27 rfl) rfl ?_
      refine pw_bipush (v := (8 : Int32)) (aX9_readNumber 28 rfl) rfl ?_
      refine pw_iload (aX9_readNumber 29 rfl) rfl ?_
      refine pw_imul (aX9_readNumber 30 rfl) ?_
      refine pw_isub (aX9_readNumber 31 rfl) ?_
      refine pw_istore (L2 := [(5, .int (((64 : Int32)) - (((8 : Int32)) * (s0i)))), (4, .int (s0i)), (0, .ref (base + 48)), (1, va_rf (h_rf base (a1))), (2, .int (a2)), (3, .int (a3))]) (aX9_readNumber 32 rfl) (by first | rfl | (simp [x_s1, x_s2, va_cat, va_ci, va_cl, va_cr, va_cn]; done) | (simp [x_s1, x_s2, va_cat, va_ci, va_cl, va_cr, va_cn]; decide)) ?_
      refine pw_aloadn (aX9_readNumber 33 rfl) rfl ?_
      refine pw_aloadn (aX9_readNumber 34 rfl) rfl ?_
      refine pw_getr (v := .long (v1)) (aX9_readNumber 35 rfl) uf_RX9_96 un_RX9_96 rfl ?_
      refine pw_iload (aX9_readNumber 36 rfl) rfl ?_
      refine pw_lshl (aX9_readNumber 37 rfl) ?_
      refine pw_iload (aX9_readNumber 38 rfl) rfl ?_
      refine pw_lshr (aX9_readNumber 39 rfl) ?_
      refine pw_putrl (aX9_readNumber 40 rfl) uf_RX9_96 (fun _ _ _ => rfl) (fun t5 => ?_)
      refine pw_aloadn (aX9_readNumber 41 rfl) rfl ?_
      refine pw_dup (aX9_readNumber 42 rfl) ?_
      refine pw_getr (v := .int (FI1 48 10)) (aX9_readNumber 43 rfl) uf_RX9_78 un_RX9_78 rfl ?_
      refine pw_iload (aX9_readNumber 44 rfl) rfl ?_
      refine pw_iadd (aX9_readNumber 45 rfl) ?_
      refine pw_putri (aX9_readNumber 46 rfl) uf_RX9_78 (fun _ _ _ => rfl) (fun t6 => ?_)
      refine pw_iconst (v := (0 : Int32)) (aX9_readNumber 47 rfl) rfl ?_
      exact pw_iret (aX9_readNumber 48 rfl) hok1
    · skip
      refine pw_aloadn (aX9_readNumber 41 rfl) rfl ?_
      refine pw_dup (aX9_readNumber 42 rfl) ?_
      refine pw_getr (v := .int (FI1 48 10)) (aX9_readNumber 43 rfl) uf_RX9_78 un_RX9_78 rfl ?_
      refine pw_iload (aX9_readNumber 44 rfl) rfl ?_
      refine pw_iadd (aX9_readNumber 45 rfl) ?_
      refine pw_putri (aX9_readNumber 46 rfl) uf_RX9_78 (fun _ _ _ => rfl) (fun t7 => ?_)
      refine pw_iconst (v := (0 : Int32)) (aX9_readNumber 47 rfl) rfl ?_
      exact pw_iret (aX9_readNumber 48 rfl) hok1
set_option maxHeartbeats 4000000 in
set_option maxRecDepth 100000 in
theorem rX9_readNumber {sk : xK} {base N d : Nat} (hkb : x_kb sk base) (a1 : Option Nat) (a2 : Int32) (a3 : Int32) (n sl : Nat) (SH : Nat → Nat × Nat) (FI : Nat → Nat → Int32) (FL : Nat → Nat → Int64) (FR : Nat → Nat → Option Nat) (hok : pk n SH FR)  : pw pj_I sk base N d none 91 0 [(0, .ref (base + 48)), (1, va_rf (h_rf base (a1))), (2, .int (a2)), (3, .int (a3))] [] (n, sl, SH, FI, FL, FR) (RX9_readNumber a1 a2 a3 n sl SH FI FL FR) := by
  unfold RX9_readNumber
  refine pw_iloadn (aX9_readNumber 0 rfl) rfl ?_
  refine pw_bipush (v := (10 : Int32)) (aX9_readNumber 1 rfl) rfl ?_
  refine pw_icle (tgt := 13) (aX9_readNumber 2 rfl) (by decide) (fun b0 => ?_) (fun b0 => ?_)
  · skip
    refine pw_iloadn (aX9_readNumber 3 rfl) rfl ?_
    refine pw_bipush (v := (10 : Int32)) (aX9_readNumber 4 rfl) rfl ?_
    refine pw_isub (aX9_readNumber 5 rfl) ?_
    refine pw_goto (tgt := 14) (aX9_readNumber 6 rfl) (by decide) ?_
    exact pw_Li (L2 := [(0, .ref (base + 48)), (1, va_rf (h_rf base (a1))), (2, .int (a2)), (3, .int (a3))]) [0, 1, 2, 3] (rX9_readNumber_14 hkb a1 a2 a3 ((a3) - ((10 : Int32))) n sl SH FI FL FR hok  ) ⟨rfl, rfl, rfl, rfl, trivial⟩
  · skip
    refine pw_iloadn (aX9_readNumber 7 rfl) rfl ?_
    exact pw_Li (L2 := [(0, .ref (base + 48)), (1, va_rf (h_rf base (a1))), (2, .int (a2)), (3, .int (a3))]) [0, 1, 2, 3] (rX9_readNumber_14 hkb a1 a2 a3 (a3) n sl SH FI FL FR hok  ) ⟨rfl, rfl, rfl, rfl, trivial⟩
set_option maxHeartbeats 4000000 in
set_option maxRecDepth 100000 in
theorem bX9_readLeb_8 {sk : xK} {base N d : Nat} {K8 : Int32 → Nat → Nat → (Nat → Nat × Nat) → (Nat → Nat → Int32) → (Nat → Nat → Int64) → (Nat → Nat → Option Nat) → Int32 → hS → Prop} (hkb : x_kb sk base) (a1 : Option Nat) (a2 : Int32) (a3 : Int32) (l4i : Int32) (l5i : Int32) (n sl : Nat) (SH : Nat → Nat × Nat) (FI : Nat → Nat → Int32) (FL : Nat → Nat → Int64) (FR : Nat → Nat → Option Nat) (hok : pk n SH FR)  (hK8 : ∀ (l4i : Int32) (l5i : Int32) (n sl : Nat) (SH : Nat → Nat × Nat) (FI : Nat → Nat → Int32) (FL : Nat → Nat → Int64) (FR : Nat → Nat → Option Nat), pk n SH FR → pw pj_I sk base N d none 92 8 [(0, .ref (base + 48)), (1, va_rf (h_rf base (a1))), (2, .int (a2)), (3, .int (a3)), (4, .int (l4i)), (5, .int (l5i))] [] (n, sl, SH, FI, FL, FR) (K8 l4i n sl SH FI FL FR)) : pw pj_I sk base (N + 1) d none 92 8 [(0, .ref (base + 48)), (1, va_rf (h_rf base (a1))), (2, .int (a2)), (3, .int (a3)), (4, .int (l4i)), (5, .int (l5i))] [] (n, sl, SH, FI, FL, FR) (BX9_readLeb_8 K8 a1 a2 a3 l4i n sl SH FI FL FR) := by
  unfold BX9_readLeb_8
  refine pd_iload (aX9_readLeb 5 rfl) rfl ?_
  refine pw_bipush (v := (10 : Int32)) (aX9_readLeb 6 rfl) rfl ?_
  refine pw_icge (tgt := 136) (aX9_readLeb 7 rfl) (by decide) (fun b0 => ?_) (fun b0 => ?_)
  · skip
    refine pw_aloadn (aX9_readLeb 8 rfl) rfl ?_
    refine pw_getr (v := .int (FI 48 10)) (aX9_readLeb 9 rfl) uf_RX9_78 un_RX9_78 rfl ?_
    refine pw_iflt (tgt := 39) (aX9_readLeb 10 rfl) (by decide) (fun b1 => ?_) (fun b1 => ?_)
    · skip
      refine pw_iconst (v := (1 : Int32)) (aX9_readLeb 20 rfl) rfl ?_
      exact pw_iret (aX9_readLeb 21 rfl) hok
    · skip
      refine pw_aloadn (aX9_readLeb 11 rfl) rfl ?_
      refine pw_getr (v := .int (FI 48 10)) (aX9_readLeb 12 rfl) uf_RX9_78 un_RX9_78 rfl ?_
      refine pw_iloadn (aX9_readLeb 13 rfl) rfl ?_
      refine pw_icge (tgt := 39) (aX9_readLeb 14 rfl) (by decide) (fun b2 => ?_) (fun b2 => ?_)
      · skip
        refine pw_aloadn (aX9_readLeb 15 rfl) rfl ?_
        refine pw_getr (v := .int (FI 48 10)) (aX9_readLeb 16 rfl) uf_RX9_78 un_RX9_78 rfl ?_
        refine pw_aloadn (aX9_readLeb 17 rfl) rfl ?_
        refine pw_alen hkb (o := a1) (aX9_readLeb 18 rfl) (fun c4 hc4 _ => ?_)
        refine pw_iclt (tgt := 41) (aX9_readLeb 19 rfl) (by decide) (fun b4 => ?_) (fun b4 => ?_)
        · skip
          refine pw_aloadn (aX9_readLeb 22 rfl) rfl ?_
          refine pw_aloadn (aX9_readLeb 23 rfl) rfl ?_
          refine pw_getr (v := .int (FI 48 10)) (aX9_readLeb 24 rfl) uf_RX9_78 un_RX9_78 rfl ?_
          refine pw_iald (ix := (FI 48 10).toInt.toNat) (o := a1) (aX9_readLeb 25 rfl) rfl (fun c6 hc6 _ gc6 => ?_)
          refine pw_istore (L2 := [(5, .int (FI c6 (FI 48 10).toInt.toNat)), (0, .ref (base + 48)), (1, va_rf (h_rf base (a1))), (2, .int (a2)), (3, .int (a3)), (4, .int (l4i))]) (aX9_readLeb 26 rfl) (by first | rfl | (simp [x_s1, x_s2, va_cat, va_ci, va_cl, va_cr, va_cn]; done) | (simp [x_s1, x_s2, va_cat, va_ci, va_cl, va_cr, va_cn]; decide)) ?_
          refine pw_aloadn (aX9_readLeb 27 rfl) rfl ?_
          refine pw_dup (aX9_readLeb 28 rfl) ?_
          refine pw_getr (v := .int (FI 48 10)) (aX9_readLeb 29 rfl) uf_RX9_78 un_RX9_78 rfl ?_
          refine pw_iconst (v := (1 : Int32)) (aX9_readLeb 30 rfl) rfl ?_
          refine pw_iadd (aX9_readLeb 31 rfl) ?_
          refine pw_putri (aX9_readLeb 32 rfl) uf_RX9_78 (fun _ _ _ => rfl) (fun t7 => ?_)
          refine pw_aloadn (aX9_readLeb 33 rfl) rfl ?_
          refine pw_dup (aX9_readLeb 34 rfl) ?_
          refine pw_getr (v := .long (FL 48 14)) (aX9_readLeb 35 rfl) uf_RX9_115 un_RX9_115 rfl ?_
          refine pw_iload (aX9_readLeb 36 rfl) rfl ?_
          refine pw_bipush (v := (127 : Int32)) (aX9_readLeb 37 rfl) rfl ?_
          refine pw_iand (aX9_readLeb 38 rfl) ?_
          refine pw_i2l (aX9_readLeb 39 rfl) ?_
          refine pw_bipush (v := (7 : Int32)) (aX9_readLeb 40 rfl) rfl ?_
          refine pw_iload (aX9_readLeb 41 rfl) rfl ?_
          refine pw_imul (aX9_readLeb 42 rfl) ?_
          refine pw_lshl (aX9_readLeb 43 rfl) ?_
          refine pw_lor (aX9_readLeb 44 rfl) ?_
          refine pw_putrl (aX9_readLeb 45 rfl) uf_RX9_115 (fun _ _ _ => rfl) (fun t8 => ?_)
          refine pw_iload (aX9_readLeb 46 rfl) rfl ?_
          refine pw_sipush (v := (128 : Int32)) (aX9_readLeb 47 rfl) rfl ?_
          refine pw_icge (tgt := 130) (aX9_readLeb 48 rfl) (by decide) (fun b8 => ?_) (fun b8 => ?_)
          · skip
            refine pw_iloadn (aX9_readLeb 49 rfl) rfl ?_
            refine pw_ifeq (tgt := 128) (aX9_readLeb 50 rfl) (by decide) (fun b9 => ?_) (fun b9 => ?_)
            · skip
              refine pw_iconst (v := (0 : Int32)) (aX9_readLeb 70 rfl) rfl ?_
              exact pw_iret (aX9_readLeb 71 rfl) hok
            · skip
              refine pw_iload (aX9_readLeb 51 rfl) rfl ?_
              refine pw_bipush (v := (9 : Int32)) (aX9_readLeb 52 rfl) rfl ?_
              refine pw_icge (tgt := 128) (aX9_readLeb 53 rfl) (by decide) (fun b10 => ?_) (fun b10 => ?_)
              · skip
                refine pw_iload (aX9_readLeb 54 rfl) rfl ?_
                refine pw_bipush (v := (64 : Int32)) (aX9_readLeb 55 rfl) rfl ?_
                refine pw_iand (aX9_readLeb 56 rfl) ?_
                refine pw_ifeq (tgt := 128) (aX9_readLeb 57 rfl) (by decide) (fun b11 => ?_) (fun b11 => ?_)
                · skip
                  refine pw_iconst (v := (0 : Int32)) (aX9_readLeb 70 rfl) rfl ?_
                  exact pw_iret (aX9_readLeb 71 rfl) hok
                · skip
                  refine pw_aloadn (aX9_readLeb 58 rfl) rfl ?_
                  refine pw_dup (aX9_readLeb 59 rfl) ?_
                  refine pw_getr (v := .long ((FL 48 14) ||| ((((FI c6 (FI 48 10).toInt.toNat) &&& ((127 : Int32))).toInt64) <<< ((((7 : Int32)) * (l4i)).toInt64 &&& 63)))) (aX9_readLeb 60 rfl) uf_RX9_115 un_RX9_115 rfl ?_
                  refine pw_ldc2 (v := (-1 : Int64)) (aX9_readLeb 61 rfl) uk_RX9_125 ?_
                  refine pw_bipush (v := (7 : Int32)) (aX9_readLeb 62 rfl) rfl ?_
                  refine pw_iload (aX9_readLeb 63 rfl) rfl ?_
                  refine pw_imul (aX9_readLeb 64 rfl) ?_
                  refine pw_bipush (v := (7 : Int32)) (aX9_readLeb 65 rfl) rfl ?_
                  refine pw_iadd (aX9_readLeb 66 rfl) ?_
                  refine pw_lshl (aX9_readLeb 67 rfl) ?_
                  refine pw_lor (aX9_readLeb 68 rfl) ?_
                  refine pw_putrl (aX9_readLeb 69 rfl) uf_RX9_115 (fun _ _ _ => rfl) (fun t13 => ?_)
                  refine pw_iconst (v := (0 : Int32)) (aX9_readLeb 70 rfl) rfl ?_
                  exact pw_iret (aX9_readLeb 71 rfl) hok
              · skip
                refine pw_iconst (v := (0 : Int32)) (aX9_readLeb 70 rfl) rfl ?_
                exact pw_iret (aX9_readLeb 71 rfl) hok
          · skip
            refine pw_iinc (v := (l4i) + (1 : Int32)) (L2 := [(4, .int ((l4i) + (1 : Int32))), (5, .int (FI c6 (FI 48 10).toInt.toNat)), (0, .ref (base + 48)), (1, va_rf (h_rf base (a1))), (2, .int (a2)), (3, .int (a3))]) (aX9_readLeb 72 rfl) rfl rfl (by first | rfl | (simp [x_s1, x_s2, va_cat, va_ci, va_cl, va_cr, va_cn]; done) | (simp [x_s1, x_s2, va_cat, va_ci, va_cl, va_cr, va_cn]; decide)) ?_
            refine pw_goto (tgt := 8) (aX9_readLeb 73 rfl) (by decide) ?_
            exact pw_Li (L2 := [(0, .ref (base + 48)), (1, va_rf (h_rf base (a1))), (2, .int (a2)), (3, .int (a3)), (4, .int ((l4i) + (1 : Int32))), (5, .int (FI c6 (FI 48 10).toInt.toNat))]) [4, 5, 0, 1, 2, 3] (hK8 ((l4i) + (1 : Int32)) (FI c6 (FI 48 10).toInt.toNat) n sl SH (h_up FI 48 10 ((FI 48 10) + ((1 : Int32)))) (h_up FL 48 14 ((FL 48 14) ||| ((((FI c6 (FI 48 10).toInt.toNat) &&& ((127 : Int32))).toInt64) <<< ((((7 : Int32)) * (l4i)).toInt64 &&& 63)))) FR hok) ⟨rfl, rfl, rfl, rfl, rfl, rfl, trivial⟩
        · skip
          refine pw_iconst (v := (1 : Int32)) (aX9_readLeb 20 rfl) rfl ?_
          exact pw_iret (aX9_readLeb 21 rfl) hok
      · skip
        refine pw_iconst (v := (1 : Int32)) (aX9_readLeb 20 rfl) rfl ?_
        exact pw_iret (aX9_readLeb 21 rfl) hok
  · skip
    refine pw_bipush (v := (15 : Int32)) (aX9_readLeb 74 rfl) rfl ?_
    exact pw_iret (aX9_readLeb 75 rfl) hok
theorem gX9_readLeb_8 {sk : xK} {base d : Nat}  (hkb : x_kb sk base) (a1 : Option Nat) (a2 : Int32) (a3 : Int32) (N : Nat) :  ∀ (l4i : Int32) (l5i : Int32) (n sl : Nat) (SH : Nat → Nat × Nat) (FI : Nat → Nat → Int32) (FL : Nat → Nat → Int64) (FR : Nat → Nat → Option Nat), pk n SH FR → pw pj_I sk base N d none 92 8 [(0, .ref (base + 48)), (1, va_rf (h_rf base (a1))), (2, .int (a2)), (3, .int (a3)), (4, .int (l4i)), (5, .int (l5i))] [] (n, sl, SH, FI, FL, FR) (GX9_readLeb_8  a1 a2 a3 (N + 1) l4i n sl SH FI FL FR) := by
  induction N with
  | zero => intros; exact pw_0
  | succ N ih => intro   l4i l5i n sl SH FI FL FR hok; exact bX9_readLeb_8 hkb a1 a2 a3 l4i l5i n sl SH FI FL FR hok  (ih  )
theorem rX9_readLeb_8 {sk : xK} {base N d : Nat}  (hkb : x_kb sk base) (a1 : Option Nat) (a2 : Int32) (a3 : Int32) (l4i : Int32) (l5i : Int32) (n sl : Nat) (SH : Nat → Nat × Nat) (FI : Nat → Nat → Int32) (FL : Nat → Nat → Int64) (FR : Nat → Nat → Option Nat) (hok : pk n SH FR)   : pw pj_I sk base N d none 92 8 [(0, .ref (base + 48)), (1, va_rf (h_rf base (a1))), (2, .int (a2)), (3, .int (a3)), (4, .int (l4i)), (5, .int (l5i))] [] (n, sl, SH, FI, FL, FR) (RX9_readLeb_8  a1 a2 a3 l4i n sl SH FI FL FR) := pw_cons (gX9_readLeb_8 hkb a1 a2 a3 N   l4i l5i n sl SH FI FL FR hok) (fun _ _ h => ⟨_, h⟩)
set_option maxHeartbeats 4000000 in
set_option maxRecDepth 100000 in
theorem rX9_readLeb {sk : xK} {base N d : Nat} (hkb : x_kb sk base) (a1 : Option Nat) (a2 : Int32) (a3 : Int32) (n sl : Nat) (SH : Nat → Nat × Nat) (FI : Nat → Nat → Int32) (FL : Nat → Nat → Int64) (FR : Nat → Nat → Option Nat) (hok : pk n SH FR)  : pw pj_I sk base N d none 92 0 [(0, .ref (base + 48)), (1, va_rf (h_rf base (a1))), (2, .int (a2)), (3, .int (a3))] [] (n, sl, SH, FI, FL, FR) (RX9_readLeb a1 a2 a3 n sl SH FI FL FR) := by
  unfold RX9_readLeb
  refine pw_aloadn (aX9_readLeb 0 rfl) rfl ?_
  refine pw_lconst (v := (0 : Int64)) (aX9_readLeb 1 rfl) rfl ?_
  refine pw_putrl (aX9_readLeb 2 rfl) uf_RX9_115 (fun _ _ _ => rfl) (fun t1 => ?_)
  refine pw_iconst (v := (0 : Int32)) (aX9_readLeb 3 rfl) rfl ?_
  refine pw_istore (L2 := [(4, .int ((0 : Int32))), (0, .ref (base + 48)), (1, va_rf (h_rf base (a1))), (2, .int (a2)), (3, .int (a3))]) (aX9_readLeb 4 rfl) (by first | rfl | (simp [x_s1, x_s2, va_cat, va_ci, va_cl, va_cr, va_cn]; done) | (simp [x_s1, x_s2, va_cat, va_ci, va_cl, va_cr, va_cn]; decide)) ?_
  exact pw_Li (L2 := [(0, .ref (base + 48)), (1, va_rf (h_rf base (a1))), (2, .int (a2)), (3, .int (a3)), (4, .int ((0 : Int32))), (5, .int 0)]) [4, 0, 1, 2, 3] (rX9_readLeb_8 hkb a1 a2 a3 ((0 : Int32)) 0 n sl SH FI (h_up FL 48 14 ((0 : Int64))) FR hok  ) ⟨rfl, rfl, rfl, rfl, rfl, trivial⟩
set_option maxHeartbeats 4000000 in
set_option maxRecDepth 100000 in
theorem rX9_readOperands_93 {sk : xK} {base N d : Nat}  (hkb : x_kb sk base) (a1 : Option Nat) (a2 : Int32) (a3 : Int32) (l4i : Int32)  (n sl : Nat) (SH : Nat → Nat × Nat) (FI : Nat → Nat → Int32) (FL : Nat → Nat → Int64) (FR : Nat → Nat → Option Nat) (hok : pk n SH FR)   : pw pj_I sk base N d none 90 93 [(0, .ref (base + 48)), (1, va_rf (h_rf base (a1))), (2, .int (a2)), (3, .int (a3)), (4, .int (l4i))] [] (n, sl, SH, FI, FL, FR) (RX9_readOperands_93  a1 a2 a3 l4i n sl SH FI FL FR) := by
  unfold RX9_readOperands_93
  refine pw_iload (aX9_readOperands 52 rfl) rfl ?_
  refine pw_ifne (tgt := 153) (aX9_readOperands 53 rfl) (by decide) (fun b0 => ?_) (fun b0 => ?_)
  · skip
    refine pw_iloadn (aX9_readOperands 54 rfl) rfl ?_
    refine pw_bipush (v := (24 : Int32)) (aX9_readOperands 55 rfl) rfl ?_
    refine pw_icne (tgt := 153) (aX9_readOperands 56 rfl) (by decide) (fun b1 => ?_) (fun b1 => ?_)
    · skip
      refine pw_aloadn (aX9_readOperands 57 rfl) rfl ?_
      refine pw_getr (v := .long (FL 48 12)) (aX9_readOperands 58 rfl) uf_RX9_96 un_RX9_96 rfl ?_
      refine pw_lconst (v := (0 : Int64)) (aX9_readOperands 59 rfl) rfl ?_
      refine pw_lclt (tgt := 128) (aX9_readOperands 60 rfl) (aX9_readOperands 61 rfl) (by decide) (fun b2 => ?_) (fun b2 => ?_)
      · skip
        refine pw_iconst (v := (1 : Int32)) (aX9_readOperands 71 rfl) rfl ?_
        exact pw_iret (aX9_readOperands 72 rfl) hok
      · skip
        refine pw_aloadn (aX9_readOperands 62 rfl) rfl ?_
        refine pw_getr (v := .long (FL 48 12)) (aX9_readOperands 63 rfl) uf_RX9_96 un_RX9_96 rfl ?_
        refine pw_iloadn (aX9_readOperands 64 rfl) rfl ?_
        refine pw_aloadn (aX9_readOperands 65 rfl) rfl ?_
        refine pw_getr (v := .int (FI 48 10)) (aX9_readOperands 66 rfl) uf_RX9_78 un_RX9_78 rfl ?_
        refine pw_isub (aX9_readOperands 67 rfl) ?_
        refine pw_i2l (aX9_readOperands 68 rfl) ?_
        refine pw_lcle (tgt := 130) (aX9_readOperands 69 rfl) (aX9_readOperands 70 rfl) (by decide) (fun b3 => ?_) (fun b3 => ?_)
        · skip
          refine pw_iconst (v := (1 : Int32)) (aX9_readOperands 71 rfl) rfl ?_
          exact pw_iret (aX9_readOperands 72 rfl) hok
        · skip
          refine pw_aloadn (aX9_readOperands 73 rfl) rfl ?_
          refine pw_aloadn (aX9_readOperands 74 rfl) rfl ?_
          refine pw_getr (v := .int (FI 48 10)) (aX9_readOperands 75 rfl) uf_RX9_78 un_RX9_78 rfl ?_
          refine pw_i2l (aX9_readOperands 76 rfl) ?_
          refine pw_putrl (aX9_readOperands 77 rfl) uf_RX9_118 (fun _ _ _ => rfl) (fun t5 => ?_)
          refine pw_aloadn (aX9_readOperands 78 rfl) rfl ?_
          refine pw_dup (aX9_readOperands 79 rfl) ?_
          refine pw_getr (v := .int (FI 48 10)) (aX9_readOperands 80 rfl) uf_RX9_78 un_RX9_78 rfl ?_
          refine pw_aloadn (aX9_readOperands 81 rfl) rfl ?_
          refine pw_getr (v := .long (FL 48 12)) (aX9_readOperands 82 rfl) uf_RX9_96 un_RX9_96 rfl ?_
          refine pw_l2i (aX9_readOperands 83 rfl) ?_
          refine pw_iadd (aX9_readOperands 84 rfl) ?_
          refine pw_putri (aX9_readOperands 85 rfl) uf_RX9_78 (fun _ _ _ => rfl) (fun t6 => ?_)
          refine pw_iload (aX9_readOperands 86 rfl) rfl ?_
          exact pw_iret (aX9_readOperands 87 rfl) hok
    · skip
      refine pw_iload (aX9_readOperands 86 rfl) rfl ?_
      exact pw_iret (aX9_readOperands 87 rfl) hok
  · skip
    refine pw_iload (aX9_readOperands 86 rfl) rfl ?_
    exact pw_iret (aX9_readOperands 87 rfl) hok
set_option maxHeartbeats 4000000 in
set_option maxRecDepth 100000 in
theorem rX9_readOperands_80 {sk : xK} {base N d : Nat}  (hkb : x_kb sk base) (a1 : Option Nat) (a2 : Int32) (a3 : Int32) (s0i : Int32) (s1i : Int32) (s2o : Option Nat) (l4i : Int32) (n sl : Nat) (SH : Nat → Nat × Nat) (FI : Nat → Nat → Int32) (FL : Nat → Nat → Int64) (FR : Nat → Nat → Option Nat) (hok : pk n SH FR)   : pw pj_I sk base N d none 90 80 [(0, .ref (base + 48)), (1, va_rf (h_rf base (a1))), (2, .int (a2)), (3, .int (a3)), (4, .int (l4i))] [.int (s0i), .int (s1i), va_rf (h_rf base (s2o)), .ref (base + 48)] (n, sl, SH, FI, FL, FR) (RX9_readOperands_80  a1 a2 a3 s0i s1i s2o n sl SH FI FL FR) := by
  unfold RX9_readOperands_80
  refine pw_callV (Bs := [va_rf (h_rf base (s2o)), .int (s1i), .int (s0i)]) (L2 := [(0, .ref (base + 48)), (1, va_rf (h_rf base (s2o))), (2, .int (s1i)), (3, .int (s0i))]) (rest := []) (aX9_readOperands 46 rfl) um_RX9_111 ujX9_readLeb wc_RX9_111.2.2.2.2 (by decide) (by decide) rfl (by first | rfl | simp [lv_args, va_cat, va_ci, va_cl, va_cr, va_cn]) (fun d => rX9_readLeb hkb (s2o) (s1i) (s0i) n sl SH FI FL FR hok) (fun v0 n0 sl0 SH0 FI0 FL0 FR0 hok0 _ => ?_)
  show pw _ _ _ _ _ _ _ 83 _ [.int (v0)] _ _
  refine pw_istore (L2 := [(4, .int (v0)), (0, .ref (base + 48)), (1, va_rf (h_rf base (a1))), (2, .int (a2)), (3, .int (a3))]) (aX9_readOperands 47 rfl) (by first | rfl | (simp [x_s1, x_s2, va_cat, va_ci, va_cl, va_cr, va_cn]; done) | (simp [x_s1, x_s2, va_cat, va_ci, va_cl, va_cr, va_cn]; decide)) ?_
  refine pw_aloadn (aX9_readOperands 48 rfl) rfl ?_
  refine pw_aloadn (aX9_readOperands 49 rfl) rfl ?_
  refine pw_getr (v := .long (FL0 48 14)) (aX9_readOperands 50 rfl) uf_RX9_115 un_RX9_115 rfl ?_
  refine pw_putrl (aX9_readOperands 51 rfl) uf_RX9_118 (fun _ _ _ => rfl) (fun t2 => ?_)
  exact pw_Li (L2 := [(0, .ref (base + 48)), (1, va_rf (h_rf base (a1))), (2, .int (a2)), (3, .int (a3)), (4, .int (v0))]) [4, 0, 1, 2, 3] (rX9_readOperands_93 hkb a1 a2 a3 (v0) n0 sl0 SH0 FI0 (h_up FL0 48 13 (FL0 48 14)) FR0 hok0  ) ⟨rfl, rfl, rfl, rfl, rfl, trivial⟩
set_option maxHeartbeats 4000000 in
set_option maxRecDepth 100000 in
theorem rX9_readOperands_66 {sk : xK} {base N d : Nat}  (hkb : x_kb sk base) (a1 : Option Nat) (a2 : Int32) (a3 : Int32)  (l4i : Int32) (n sl : Nat) (SH : Nat → Nat × Nat) (FI : Nat → Nat → Int32) (FL : Nat → Nat → Int64) (FR : Nat → Nat → Option Nat) (hok : pk n SH FR)   : pw pj_I sk base N d none 90 66 [(0, .ref (base + 48)), (1, va_rf (h_rf base (a1))), (2, .int (a2)), (3, .int (a3)), (4, .int (l4i))] [] (n, sl, SH, FI, FL, FR) (RX9_readOperands_66  a1 a2 a3  n sl SH FI FL FR) := by
  unfold RX9_readOperands_66
  refine pw_aloadn (aX9_readOperands 37 rfl) rfl ?_
  refine pw_aloadn (aX9_readOperands 38 rfl) rfl ?_
  refine pw_iloadn (aX9_readOperands 39 rfl) rfl ?_
  refine pw_iloadn (aX9_readOperands 40 rfl) rfl ?_
  refine pw_bipush (v := (22 : Int32)) (aX9_readOperands 41 rfl) rfl ?_
  refine pw_icne (tgt := 79) (aX9_readOperands 42 rfl) (by decide) (fun b0 => ?_) (fun b0 => ?_)
  · skip
    refine pw_iconst (v := (1 : Int32)) (aX9_readOperands 43 rfl) rfl ?_
    refine pw_goto (tgt := 80) (aX9_readOperands 44 rfl) (by decide) ?_
    exact pw_Li (L2 := [(0, .ref (base + 48)), (1, va_rf (h_rf base (a1))), (2, .int (a2)), (3, .int (a3)), (4, .int (l4i))]) [0, 1, 2, 3, 4] (rX9_readOperands_80 hkb a1 a2 a3 ((1 : Int32)) (a2) (a1) (l4i) n sl SH FI FL FR hok  ) ⟨rfl, rfl, rfl, rfl, rfl, trivial⟩
  · skip
    refine pw_iconst (v := (0 : Int32)) (aX9_readOperands 45 rfl) rfl ?_
    exact pw_Li (L2 := [(0, .ref (base + 48)), (1, va_rf (h_rf base (a1))), (2, .int (a2)), (3, .int (a3)), (4, .int (l4i))]) [0, 1, 2, 3, 4] (rX9_readOperands_80 hkb a1 a2 a3 ((0 : Int32)) (a2) (a1) (l4i) n sl SH FI FL FR hok  ) ⟨rfl, rfl, rfl, rfl, rfl, trivial⟩
set_option maxHeartbeats 4000000 in
set_option maxRecDepth 100000 in
theorem rX9_readOperands_36 {sk : xK} {base N d : Nat}  (hkb : x_kb sk base) (a1 : Option Nat) (a2 : Int32) (a3 : Int32) (s0i : Int32) (s1i : Int32) (s2o : Option Nat)  (n sl : Nat) (SH : Nat → Nat × Nat) (FI : Nat → Nat → Int32) (FL : Nat → Nat → Int64) (FR : Nat → Nat → Option Nat) (hok : pk n SH FR)   : pw pj_I sk base N d none 90 36 [(0, .ref (base + 48)), (1, va_rf (h_rf base (a1))), (2, .int (a2)), (3, .int (a3))] [.int (s0i), .int (s1i), va_rf (h_rf base (s2o)), .ref (base + 48)] (n, sl, SH, FI, FL, FR) (RX9_readOperands_36  a1 a2 a3 s0i s1i s2o n sl SH FI FL FR) := by
  unfold RX9_readOperands_36
  refine pw_callV (Bs := [va_rf (h_rf base (s2o)), .int (s1i), .int (s0i)]) (L2 := [(0, .ref (base + 48)), (1, va_rf (h_rf base (s2o))), (2, .int (s1i)), (3, .int (s0i))]) (rest := []) (aX9_readOperands 23 rfl) um_RX9_111 ujX9_readLeb wc_RX9_111.2.2.2.2 (by decide) (by decide) rfl (by first | rfl | simp [lv_args, va_cat, va_ci, va_cl, va_cr, va_cn]) (fun d => rX9_readLeb hkb (s2o) (s1i) (s0i) n sl SH FI FL FR hok) (fun v0 n0 sl0 SH0 FI0 FL0 FR0 hok0 _ => ?_)
  show pw _ _ _ _ _ _ _ 39 _ [.int (v0)] _ _
  refine pw_istore (L2 := [(4, .int (v0)), (0, .ref (base + 48)), (1, va_rf (h_rf base (a1))), (2, .int (a2)), (3, .int (a3))]) (aX9_readOperands 24 rfl) (by first | rfl | (simp [x_s1, x_s2, va_cat, va_ci, va_cl, va_cr, va_cn]; done) | (simp [x_s1, x_s2, va_cat, va_ci, va_cl, va_cr, va_cn]; decide)) ?_
  refine pw_aloadn (aX9_readOperands 25 rfl) rfl ?_
  refine pw_aloadn (aX9_readOperands 26 rfl) rfl ?_
  refine pw_getr (v := .long (FL0 48 14)) (aX9_readOperands 27 rfl) uf_RX9_115 un_RX9_115 rfl ?_
  refine pw_putrl (aX9_readOperands 28 rfl) uf_RX9_96 (fun _ _ _ => rfl) (fun t2 => ?_)
  refine pw_iload (aX9_readOperands 29 rfl) rfl ?_
  refine pw_ifne (tgt := 93) (aX9_readOperands 30 rfl) (by decide) (fun b2 => ?_) (fun b2 => ?_)
  · skip
    refine pw_iloadn (aX9_readOperands 31 rfl) rfl ?_
    refine pw_bipush (v := (22 : Int32)) (aX9_readOperands 32 rfl) rfl ?_
    refine pw_iceq (tgt := 66) (aX9_readOperands 33 rfl) (by decide) (fun b3 => ?_) (fun b3 => ?_)
    · skip
      exact pw_Li (L2 := [(0, .ref (base + 48)), (1, va_rf (h_rf base (a1))), (2, .int (a2)), (3, .int (a3)), (4, .int (v0))]) [4, 0, 1, 2, 3] (rX9_readOperands_66 hkb a1 a2 a3 (v0) n0 sl0 SH0 FI0 (h_up FL0 48 12 (FL0 48 14)) FR0 hok0  ) ⟨rfl, rfl, rfl, rfl, rfl, trivial⟩
    · skip
      refine pw_iloadn (aX9_readOperands 34 rfl) rfl ?_
      refine pw_bipush (v := (23 : Int32)) (aX9_readOperands 35 rfl) rfl ?_
      refine pw_icne (tgt := 93) (aX9_readOperands 36 rfl) (by decide) (fun b4 => ?_) (fun b4 => ?_)
      · skip
        exact pw_Li (L2 := [(0, .ref (base + 48)), (1, va_rf (h_rf base (a1))), (2, .int (a2)), (3, .int (a3)), (4, .int (v0))]) [4, 0, 1, 2, 3] (rX9_readOperands_66 hkb a1 a2 a3 (v0) n0 sl0 SH0 FI0 (h_up FL0 48 12 (FL0 48 14)) FR0 hok0  ) ⟨rfl, rfl, rfl, rfl, rfl, trivial⟩
      · skip
        exact pw_Li (L2 := [(0, .ref (base + 48)), (1, va_rf (h_rf base (a1))), (2, .int (a2)), (3, .int (a3)), (4, .int (v0))]) [4, 0, 1, 2, 3] (rX9_readOperands_93 hkb a1 a2 a3 (v0) n0 sl0 SH0 FI0 (h_up FL0 48 12 (FL0 48 14)) FR0 hok0  ) ⟨rfl, rfl, rfl, rfl, rfl, trivial⟩
  · skip
    exact pw_Li (L2 := [(0, .ref (base + 48)), (1, va_rf (h_rf base (a1))), (2, .int (a2)), (3, .int (a3)), (4, .int (v0))]) [4, 0, 1, 2, 3] (rX9_readOperands_93 hkb a1 a2 a3 (v0) n0 sl0 SH0 FI0 (h_up FL0 48 12 (FL0 48 14)) FR0 hok0  ) ⟨rfl, rfl, rfl, rfl, rfl, trivial⟩
set_option maxHeartbeats 4000000 in
set_option maxRecDepth 100000 in
theorem rX9_readOperands {sk : xK} {base N d : Nat} (hkb : x_kb sk base) (a1 : Option Nat) (a2 : Int32) (a3 : Int32) (n sl : Nat) (SH : Nat → Nat × Nat) (FI : Nat → Nat → Int32) (FL : Nat → Nat → Int64) (FR : Nat → Nat → Option Nat) (hok : pk n SH FR)  : pw pj_I sk base N d none 90 0 [(0, .ref (base + 48)), (1, va_rf (h_rf base (a1))), (2, .int (a2)), (3, .int (a3))] [] (n, sl, SH, FI, FL, FR) (RX9_readOperands a1 a2 a3 n sl SH FI FL FR) := by
  unfold RX9_readOperands
  refine pw_iloadn (aX9_readOperands 0 rfl) rfl ?_
  refine pw_bipush (v := (25 : Int32)) (aX9_readOperands 1 rfl) rfl ?_
  refine pw_icne (tgt := 8) (aX9_readOperands 2 rfl) (by decide) (fun b0 => ?_) (fun b0 => ?_)
  · skip
    refine pw_iconst (v := (2 : Int32)) (aX9_readOperands 3 rfl) rfl ?_
    exact pw_iret (aX9_readOperands 4 rfl) hok
  · skip
    refine pw_iloadn (aX9_readOperands 5 rfl) rfl ?_
    refine pw_bipush (v := (20 : Int32)) (aX9_readOperands 6 rfl) rfl ?_
    refine pw_icge (tgt := 22) (aX9_readOperands 7 rfl) (by decide) (fun b1 => ?_) (fun b1 => ?_)
    · skip
      refine pw_aloadn (aX9_readOperands 8 rfl) rfl ?_
      refine pw_aloadn (aX9_readOperands 9 rfl) rfl ?_
      refine pw_iloadn (aX9_readOperands 10 rfl) rfl ?_
      refine pw_iloadn (aX9_readOperands 11 rfl) rfl ?_
      refine pw_callV (Bs := [va_rf (h_rf base (a1)), .int (a2), .int (a3)]) (L2 := [(0, .ref (base + 48)), (1, va_rf (h_rf base (a1))), (2, .int (a2)), (3, .int (a3))]) (rest := []) (aX9_readOperands 12 rfl) um_RX9_108 ujX9_readNumber wc_RX9_108.2.2.2.2 (by decide) (by decide) rfl (by first | rfl | simp [lv_args, va_cat, va_ci, va_cl, va_cr, va_cn]) (fun d => rX9_readNumber hkb (a1) (a2) (a3) n sl SH FI FL FR hok) (fun v2 n2 sl2 SH2 FI2 FL2 FR2 hok2 _ => ?_)
      show pw _ _ _ _ _ _ _ 21 _ [.int (v2)] _ _
      exact pw_iret (aX9_readOperands 13 rfl) hok2
    · skip
      refine pw_aloadn (aX9_readOperands 14 rfl) rfl ?_
      refine pw_aloadn (aX9_readOperands 15 rfl) rfl ?_
      refine pw_iloadn (aX9_readOperands 16 rfl) rfl ?_
      refine pw_iloadn (aX9_readOperands 17 rfl) rfl ?_
      refine pw_bipush (v := (21 : Int32)) (aX9_readOperands 18 rfl) rfl ?_
      refine pw_icne (tgt := 35) (aX9_readOperands 19 rfl) (by decide) (fun b3 => ?_) (fun b3 => ?_)
      · skip
        refine pw_iconst (v := (1 : Int32)) (aX9_readOperands 20 rfl) rfl ?_
        refine pw_goto (tgt := 36) (aX9_readOperands 21 rfl) (by decide) ?_
        exact pw_Li (L2 := [(0, .ref (base + 48)), (1, va_rf (h_rf base (a1))), (2, .int (a2)), (3, .int (a3))]) [0, 1, 2, 3] (rX9_readOperands_36 hkb a1 a2 a3 ((1 : Int32)) (a2) (a1) n sl SH FI FL FR hok  ) ⟨rfl, rfl, rfl, rfl, trivial⟩
      · skip
        refine pw_iconst (v := (0 : Int32)) (aX9_readOperands 22 rfl) rfl ?_
        exact pw_Li (L2 := [(0, .ref (base + 48)), (1, va_rf (h_rf base (a1))), (2, .int (a2)), (3, .int (a3))]) [0, 1, 2, 3] (rX9_readOperands_36 hkb a1 a2 a3 ((0 : Int32)) (a2) (a1) n sl SH FI FL FR hok  ) ⟨rfl, rfl, rfl, rfl, trivial⟩
set_option maxHeartbeats 4000000 in
set_option maxRecDepth 100000 in
theorem rX9_isTooMuch {sk : xK} {base N d : Nat} (hkb : x_kb sk base) (a1 : Int32) (n sl : Nat) (SH : Nat → Nat × Nat) (FI : Nat → Nat → Int32) (FL : Nat → Nat → Int64) (FR : Nat → Nat → Option Nat) (hok : pk n SH FR)  : pw pj_I sk base N d none 95 0 [(0, .ref (base + 48)), (1, .int (a1))] [] (n, sl, SH, FI, FL, FR) (P_ret (fX9_isTooMuch a1 SH FI FL FR) (n, sl, SH, FI, FL, FR)) := by
  unfold fX9_isTooMuch
  refine pw_iloadn (aX9_isTooMuch 0 rfl) rfl ?_
  refine pw_sipush (v := (147 : Int32)) (aX9_isTooMuch 1 rfl) rfl ?_
  refine pw_ite (pw_icne (tgt := 12) (aX9_isTooMuch 2 rfl) (by decide) (fun b0 => ?_) (fun b0 => ?_))
  · skip
    refine pw_bipush (v := (8 : Int32)) (aX9_isTooMuch 3 rfl) rfl ?_
    refine pw_goto (tgt := 13) (aX9_isTooMuch 4 rfl) (by decide) ?_
    refine pw_istoren (L2 := [(2, .int ((8 : Int32))), (0, .ref (base + 48)), (1, .int (a1))]) (aX9_isTooMuch 6 rfl) rfl ?_
    refine pw_aloadn (aX9_isTooMuch 7 rfl) rfl ?_
    refine pw_getr (v := .ref (base + 72)) (aX9_isTooMuch 8 rfl) uf_RX9_25 un_RX9_25 (congrArg (fun r => va_rf (h_rf base r)) (q48_4 (hok).2.1)) ?_
    refine pw_getr (v := .int (FI 72 1)) (aX9_isTooMuch 9 rfl) uf_RX9_146 un_RX9_146 rfl ?_
    refine pw_bipush (v := (16 : Int32)) (aX9_isTooMuch 10 rfl) rfl ?_
    refine pw_ite (pw_icge (tgt := 49) (aX9_isTooMuch 11 rfl) (by decide) (fun b1 => ?_) (fun b1 => ?_))
    · skip
      refine pw_aloadn (aX9_isTooMuch 12 rfl) rfl ?_
      refine pw_getr (v := .long (FL 48 12)) (aX9_isTooMuch 13 rfl) uf_RX9_96 un_RX9_96 rfl ?_
      refine pw_lconst (v := (0 : Int64)) (aX9_isTooMuch 14 rfl) rfl ?_
      refine pw_ite (pw_lclt (tgt := 49) (aX9_isTooMuch 15 rfl) (aX9_isTooMuch 16 rfl) (by decide) (fun b2 => ?_) (fun b2 => ?_))
      · skip
        refine pw_iconst (v := (1 : Int32)) (aX9_isTooMuch 25 rfl) rfl ?_
        exact pw_iret (aX9_isTooMuch 26 rfl) hok
      · skip
        refine pw_aloadn (aX9_isTooMuch 17 rfl) rfl ?_
        refine pw_getr (v := .long (FL 48 12)) (aX9_isTooMuch 18 rfl) uf_RX9_96 un_RX9_96 rfl ?_
        refine pw_sipush (v := (4096 : Int32)) (aX9_isTooMuch 19 rfl) rfl ?_
        refine pw_iloadn (aX9_isTooMuch 20 rfl) rfl ?_
        refine pw_sd (pw_idiv (aX9_isTooMuch 21 rfl) (fun _ => ?_))
        refine pw_i2l (aX9_isTooMuch 22 rfl) ?_
        refine pw_ite (pw_lcle (tgt := 51) (aX9_isTooMuch 23 rfl) (aX9_isTooMuch 24 rfl) (by decide) (fun b3 => ?_) (fun b3 => ?_))
        · skip
          refine pw_iconst (v := (1 : Int32)) (aX9_isTooMuch 25 rfl) rfl ?_
          exact pw_iret (aX9_isTooMuch 26 rfl) hok
        · skip
          refine pw_iloadn (aX9_isTooMuch 27 rfl) rfl ?_
          refine pw_sipush (v := (157 : Int32)) (aX9_isTooMuch 28 rfl) rfl ?_
          refine pw_ite (pw_icne (tgt := 80) (aX9_isTooMuch 29 rfl) (by decide) (fun b4 => ?_) (fun b4 => ?_))
          · skip
            refine pw_aloadn (aX9_isTooMuch 30 rfl) rfl ?_
            refine pw_getr (v := .long (FL 48 13)) (aX9_isTooMuch 31 rfl) uf_RX9_118 un_RX9_118 rfl ?_
            refine pw_lconst (v := (0 : Int64)) (aX9_isTooMuch 32 rfl) rfl ?_
            refine pw_ite (pw_lclt (tgt := 78) (aX9_isTooMuch 33 rfl) (aX9_isTooMuch 34 rfl) (by decide) (fun b5 => ?_) (fun b5 => ?_))
            · skip
              refine pw_iconst (v := (1 : Int32)) (aX9_isTooMuch 40 rfl) rfl ?_
              exact pw_iret (aX9_isTooMuch 41 rfl) hok
            · skip
              refine pw_aloadn (aX9_isTooMuch 35 rfl) rfl ?_
              refine pw_getr (v := .long (FL 48 13)) (aX9_isTooMuch 36 rfl) uf_RX9_118 un_RX9_118 rfl ?_
              refine pw_ldc2 (v := (4096 : Int64)) (aX9_isTooMuch 37 rfl) uk_RX9_149 ?_
              refine pw_ite (pw_lcle (tgt := 80) (aX9_isTooMuch 38 rfl) (aX9_isTooMuch 39 rfl) (by decide) (fun b6 => ?_) (fun b6 => ?_))
              · skip
                refine pw_iconst (v := (1 : Int32)) (aX9_isTooMuch 40 rfl) rfl ?_
                exact pw_iret (aX9_isTooMuch 41 rfl) hok
              · skip
                refine pw_aloadn (aX9_isTooMuch 42 rfl) rfl ?_
                refine pw_getr (v := .ref (base + 72)) (aX9_isTooMuch 43 rfl) uf_RX9_25 un_RX9_25 (congrArg (fun r => va_rf (h_rf base r)) (q48_4 (hok).2.1)) ?_
                refine pw_getr (v := .int (FI 72 2)) (aX9_isTooMuch 44 rfl) uf_RX9_151 un_RX9_151 rfl ?_
                refine pw_i2l (aX9_isTooMuch 45 rfl) ?_
                refine pw_aloadn (aX9_isTooMuch 46 rfl) rfl ?_
                refine pw_getr (v := .long (FL 48 12)) (aX9_isTooMuch 47 rfl) uf_RX9_96 un_RX9_96 rfl ?_
                refine pw_iloadn (aX9_isTooMuch 48 rfl) rfl ?_
                refine pw_i2l (aX9_isTooMuch 49 rfl) ?_
                refine pw_lmul (aX9_isTooMuch 50 rfl) ?_
                refine pw_ladd (aX9_isTooMuch 51 rfl) ?_
                refine pw_ldc2 (v := (4096 : Int64)) (aX9_isTooMuch 52 rfl) uk_RX9_149 ?_
                refine pw_ite (pw_lcle (tgt := 107) (aX9_isTooMuch 53 rfl) (aX9_isTooMuch 54 rfl) (by decide) (fun b7 => ?_) (fun b7 => ?_))
                · skip
                  refine pw_iconst (v := (1 : Int32)) (aX9_isTooMuch 55 rfl) rfl ?_
                  refine pw_goto (tgt := 108) (aX9_isTooMuch 56 rfl) (by decide) ?_
                  exact pw_iret (aX9_isTooMuch 58 rfl) hok
                · skip
                  refine pw_iconst (v := (0 : Int32)) (aX9_isTooMuch 57 rfl) rfl ?_
                  exact pw_iret (aX9_isTooMuch 58 rfl) hok
          · skip
            refine pw_aloadn (aX9_isTooMuch 42 rfl) rfl ?_
            refine pw_getr (v := .ref (base + 72)) (aX9_isTooMuch 43 rfl) uf_RX9_25 un_RX9_25 (congrArg (fun r => va_rf (h_rf base r)) (q48_4 (hok).2.1)) ?_
            refine pw_getr (v := .int (FI 72 2)) (aX9_isTooMuch 44 rfl) uf_RX9_151 un_RX9_151 rfl ?_
            refine pw_i2l (aX9_isTooMuch 45 rfl) ?_
            refine pw_aloadn (aX9_isTooMuch 46 rfl) rfl ?_
            refine pw_getr (v := .long (FL 48 12)) (aX9_isTooMuch 47 rfl) uf_RX9_96 un_RX9_96 rfl ?_
            refine pw_iloadn (aX9_isTooMuch 48 rfl) rfl ?_
            refine pw_i2l (aX9_isTooMuch 49 rfl) ?_
            refine pw_lmul (aX9_isTooMuch 50 rfl) ?_
            refine pw_ladd (aX9_isTooMuch 51 rfl) ?_
            refine pw_ldc2 (v := (4096 : Int64)) (aX9_isTooMuch 52 rfl) uk_RX9_149 ?_
            refine pw_ite (pw_lcle (tgt := 107) (aX9_isTooMuch 53 rfl) (aX9_isTooMuch 54 rfl) (by decide) (fun b8 => ?_) (fun b8 => ?_))
            · skip
              refine pw_iconst (v := (1 : Int32)) (aX9_isTooMuch 55 rfl) rfl ?_
              refine pw_goto (tgt := 108) (aX9_isTooMuch 56 rfl) (by decide) ?_
              exact pw_iret (aX9_isTooMuch 58 rfl) hok
            · skip
              refine pw_iconst (v := (0 : Int32)) (aX9_isTooMuch 57 rfl) rfl ?_
              exact pw_iret (aX9_isTooMuch 58 rfl) hok
    · skip
      refine pw_iconst (v := (1 : Int32)) (aX9_isTooMuch 25 rfl) rfl ?_
      exact pw_iret (aX9_isTooMuch 26 rfl) hok
  · skip
    refine pw_iconst (v := (1 : Int32)) (aX9_isTooMuch 5 rfl) rfl ?_
    refine pw_istoren (L2 := [(2, .int ((1 : Int32))), (0, .ref (base + 48)), (1, .int (a1))]) (aX9_isTooMuch 6 rfl) rfl ?_
    refine pw_aloadn (aX9_isTooMuch 7 rfl) rfl ?_
    refine pw_getr (v := .ref (base + 72)) (aX9_isTooMuch 8 rfl) uf_RX9_25 un_RX9_25 (congrArg (fun r => va_rf (h_rf base r)) (q48_4 (hok).2.1)) ?_
    refine pw_getr (v := .int (FI 72 1)) (aX9_isTooMuch 9 rfl) uf_RX9_146 un_RX9_146 rfl ?_
    refine pw_bipush (v := (16 : Int32)) (aX9_isTooMuch 10 rfl) rfl ?_
    refine pw_ite (pw_icge (tgt := 49) (aX9_isTooMuch 11 rfl) (by decide) (fun b9 => ?_) (fun b9 => ?_))
    · skip
      refine pw_aloadn (aX9_isTooMuch 12 rfl) rfl ?_
      refine pw_getr (v := .long (FL 48 12)) (aX9_isTooMuch 13 rfl) uf_RX9_96 un_RX9_96 rfl ?_
      refine pw_lconst (v := (0 : Int64)) (aX9_isTooMuch 14 rfl) rfl ?_
      refine pw_ite (pw_lclt (tgt := 49) (aX9_isTooMuch 15 rfl) (aX9_isTooMuch 16 rfl) (by decide) (fun b10 => ?_) (fun b10 => ?_))
      · skip
        refine pw_iconst (v := (1 : Int32)) (aX9_isTooMuch 25 rfl) rfl ?_
        exact pw_iret (aX9_isTooMuch 26 rfl) hok
      · skip
        refine pw_aloadn (aX9_isTooMuch 17 rfl) rfl ?_
        refine pw_getr (v := .long (FL 48 12)) (aX9_isTooMuch 18 rfl) uf_RX9_96 un_RX9_96 rfl ?_
        refine pw_sipush (v := (4096 : Int32)) (aX9_isTooMuch 19 rfl) rfl ?_
        refine pw_iloadn (aX9_isTooMuch 20 rfl) rfl ?_
        refine pw_sd (pw_idiv (aX9_isTooMuch 21 rfl) (fun _ => ?_))
        refine pw_i2l (aX9_isTooMuch 22 rfl) ?_
        refine pw_ite (pw_lcle (tgt := 51) (aX9_isTooMuch 23 rfl) (aX9_isTooMuch 24 rfl) (by decide) (fun b11 => ?_) (fun b11 => ?_))
        · skip
          refine pw_iconst (v := (1 : Int32)) (aX9_isTooMuch 25 rfl) rfl ?_
          exact pw_iret (aX9_isTooMuch 26 rfl) hok
        · skip
          refine pw_iloadn (aX9_isTooMuch 27 rfl) rfl ?_
          refine pw_sipush (v := (157 : Int32)) (aX9_isTooMuch 28 rfl) rfl ?_
          refine pw_ite (pw_icne (tgt := 80) (aX9_isTooMuch 29 rfl) (by decide) (fun b12 => ?_) (fun b12 => ?_))
          · skip
            refine pw_aloadn (aX9_isTooMuch 30 rfl) rfl ?_
            refine pw_getr (v := .long (FL 48 13)) (aX9_isTooMuch 31 rfl) uf_RX9_118 un_RX9_118 rfl ?_
            refine pw_lconst (v := (0 : Int64)) (aX9_isTooMuch 32 rfl) rfl ?_
            refine pw_ite (pw_lclt (tgt := 78) (aX9_isTooMuch 33 rfl) (aX9_isTooMuch 34 rfl) (by decide) (fun b13 => ?_) (fun b13 => ?_))
            · skip
              refine pw_iconst (v := (1 : Int32)) (aX9_isTooMuch 40 rfl) rfl ?_
              exact pw_iret (aX9_isTooMuch 41 rfl) hok
            · skip
              refine pw_aloadn (aX9_isTooMuch 35 rfl) rfl ?_
              refine pw_getr (v := .long (FL 48 13)) (aX9_isTooMuch 36 rfl) uf_RX9_118 un_RX9_118 rfl ?_
              refine pw_ldc2 (v := (4096 : Int64)) (aX9_isTooMuch 37 rfl) uk_RX9_149 ?_
              refine pw_ite (pw_lcle (tgt := 80) (aX9_isTooMuch 38 rfl) (aX9_isTooMuch 39 rfl) (by decide) (fun b14 => ?_) (fun b14 => ?_))
              · skip
                refine pw_iconst (v := (1 : Int32)) (aX9_isTooMuch 40 rfl) rfl ?_
                exact pw_iret (aX9_isTooMuch 41 rfl) hok
              · skip
                refine pw_aloadn (aX9_isTooMuch 42 rfl) rfl ?_
                refine pw_getr (v := .ref (base + 72)) (aX9_isTooMuch 43 rfl) uf_RX9_25 un_RX9_25 (congrArg (fun r => va_rf (h_rf base r)) (q48_4 (hok).2.1)) ?_
                refine pw_getr (v := .int (FI 72 2)) (aX9_isTooMuch 44 rfl) uf_RX9_151 un_RX9_151 rfl ?_
                refine pw_i2l (aX9_isTooMuch 45 rfl) ?_
                refine pw_aloadn (aX9_isTooMuch 46 rfl) rfl ?_
                refine pw_getr (v := .long (FL 48 12)) (aX9_isTooMuch 47 rfl) uf_RX9_96 un_RX9_96 rfl ?_
                refine pw_iloadn (aX9_isTooMuch 48 rfl) rfl ?_
                refine pw_i2l (aX9_isTooMuch 49 rfl) ?_
                refine pw_lmul (aX9_isTooMuch 50 rfl) ?_
                refine pw_ladd (aX9_isTooMuch 51 rfl) ?_
                refine pw_ldc2 (v := (4096 : Int64)) (aX9_isTooMuch 52 rfl) uk_RX9_149 ?_
                refine pw_ite (pw_lcle (tgt := 107) (aX9_isTooMuch 53 rfl) (aX9_isTooMuch 54 rfl) (by decide) (fun b15 => ?_) (fun b15 => ?_))
                · skip
                  refine pw_iconst (v := (1 : Int32)) (aX9_isTooMuch 55 rfl) rfl ?_
                  refine pw_goto (tgt := 108) (aX9_isTooMuch 56 rfl) (by decide) ?_
                  exact pw_iret (aX9_isTooMuch 58 rfl) hok
                · skip
                  refine pw_iconst (v := (0 : Int32)) (aX9_isTooMuch 57 rfl) rfl ?_
                  exact pw_iret (aX9_isTooMuch 58 rfl) hok
          · skip
            refine pw_aloadn (aX9_isTooMuch 42 rfl) rfl ?_
            refine pw_getr (v := .ref (base + 72)) (aX9_isTooMuch 43 rfl) uf_RX9_25 un_RX9_25 (congrArg (fun r => va_rf (h_rf base r)) (q48_4 (hok).2.1)) ?_
            refine pw_getr (v := .int (FI 72 2)) (aX9_isTooMuch 44 rfl) uf_RX9_151 un_RX9_151 rfl ?_
            refine pw_i2l (aX9_isTooMuch 45 rfl) ?_
            refine pw_aloadn (aX9_isTooMuch 46 rfl) rfl ?_
            refine pw_getr (v := .long (FL 48 12)) (aX9_isTooMuch 47 rfl) uf_RX9_96 un_RX9_96 rfl ?_
            refine pw_iloadn (aX9_isTooMuch 48 rfl) rfl ?_
            refine pw_i2l (aX9_isTooMuch 49 rfl) ?_
            refine pw_lmul (aX9_isTooMuch 50 rfl) ?_
            refine pw_ladd (aX9_isTooMuch 51 rfl) ?_
            refine pw_ldc2 (v := (4096 : Int64)) (aX9_isTooMuch 52 rfl) uk_RX9_149 ?_
            refine pw_ite (pw_lcle (tgt := 107) (aX9_isTooMuch 53 rfl) (aX9_isTooMuch 54 rfl) (by decide) (fun b16 => ?_) (fun b16 => ?_))
            · skip
              refine pw_iconst (v := (1 : Int32)) (aX9_isTooMuch 55 rfl) rfl ?_
              refine pw_goto (tgt := 108) (aX9_isTooMuch 56 rfl) (by decide) ?_
              exact pw_iret (aX9_isTooMuch 58 rfl) hok
            · skip
              refine pw_iconst (v := (0 : Int32)) (aX9_isTooMuch 57 rfl) rfl ?_
              exact pw_iret (aX9_isTooMuch 58 rfl) hok
    · skip
      refine pw_iconst (v := (1 : Int32)) (aX9_isTooMuch 25 rfl) rfl ?_
      exact pw_iret (aX9_isTooMuch 26 rfl) hok
set_option maxHeartbeats 4000000 in
set_option maxRecDepth 100000 in
theorem rX9_wanted {sk : xK} {base N d : Nat} (hkb : x_kb sk base) (a1 : Int32) (n sl : Nat) (SH : Nat → Nat × Nat) (FI : Nat → Nat → Int32) (FL : Nat → Nat → Int64) (FR : Nat → Nat → Option Nat) (hok : pk n SH FR)  : pw pj_I sk base N d none 96 0 [(0, .ref (base + 48)), (1, .int (a1))] [] (n, sl, SH, FI, FL, FR) (P_ret (fX9_wanted a1 SH FI FL FR) (n, sl, SH, FI, FL, FR)) := by
  unfold fX9_wanted
  refine pw_iloadn (aX9_wanted 0 rfl) rfl ?_
  refine pw_lsw aX9_wanted_1 (fun tg ht => ?_)
  refine pw_ite (pw_case ((a1).toInt = 6 ∨ (a1).toInt = 18 ∨ (a1).toInt = 19 ∨ (a1).toInt = 25 ∨ (a1).toInt = 31 ∨ (a1).toInt = 32 ∨ (a1).toInt = 35 ∨ (a1).toInt = 40 ∨ (a1).toInt = 148 ∨ (a1).toInt = 155 ∨ (a1).toInt = 159) (fun b1 => ?_) (fun b1 => ?_))
  · have et : tg = 132 := by
      rcases b1 with h9 | h9 | h9 | h9 | h9 | h9 | h9 | h9 | h9 | h9 | h9
      · have e9 : Jvm.Op.lookupswitch.offset [(6, 131), (18, 131), (19, 131), (20, 133), (21, 135), (22, 133), (23, 143), (25, 131), (31, 131), (32, 131), (35, 131), (40, 131), (148, 131), (155, 131), (159, 131)] (145) (6) = 131 := (by decide); rw [h9, e9] at ht; omega
      · have e9 : Jvm.Op.lookupswitch.offset [(6, 131), (18, 131), (19, 131), (20, 133), (21, 135), (22, 133), (23, 143), (25, 131), (31, 131), (32, 131), (35, 131), (40, 131), (148, 131), (155, 131), (159, 131)] (145) (18) = 131 := (by decide); rw [h9, e9] at ht; omega
      · have e9 : Jvm.Op.lookupswitch.offset [(6, 131), (18, 131), (19, 131), (20, 133), (21, 135), (22, 133), (23, 143), (25, 131), (31, 131), (32, 131), (35, 131), (40, 131), (148, 131), (155, 131), (159, 131)] (145) (19) = 131 := (by decide); rw [h9, e9] at ht; omega
      · have e9 : Jvm.Op.lookupswitch.offset [(6, 131), (18, 131), (19, 131), (20, 133), (21, 135), (22, 133), (23, 143), (25, 131), (31, 131), (32, 131), (35, 131), (40, 131), (148, 131), (155, 131), (159, 131)] (145) (25) = 131 := (by decide); rw [h9, e9] at ht; omega
      · have e9 : Jvm.Op.lookupswitch.offset [(6, 131), (18, 131), (19, 131), (20, 133), (21, 135), (22, 133), (23, 143), (25, 131), (31, 131), (32, 131), (35, 131), (40, 131), (148, 131), (155, 131), (159, 131)] (145) (31) = 131 := (by decide); rw [h9, e9] at ht; omega
      · have e9 : Jvm.Op.lookupswitch.offset [(6, 131), (18, 131), (19, 131), (20, 133), (21, 135), (22, 133), (23, 143), (25, 131), (31, 131), (32, 131), (35, 131), (40, 131), (148, 131), (155, 131), (159, 131)] (145) (32) = 131 := (by decide); rw [h9, e9] at ht; omega
      · have e9 : Jvm.Op.lookupswitch.offset [(6, 131), (18, 131), (19, 131), (20, 133), (21, 135), (22, 133), (23, 143), (25, 131), (31, 131), (32, 131), (35, 131), (40, 131), (148, 131), (155, 131), (159, 131)] (145) (35) = 131 := (by decide); rw [h9, e9] at ht; omega
      · have e9 : Jvm.Op.lookupswitch.offset [(6, 131), (18, 131), (19, 131), (20, 133), (21, 135), (22, 133), (23, 143), (25, 131), (31, 131), (32, 131), (35, 131), (40, 131), (148, 131), (155, 131), (159, 131)] (145) (40) = 131 := (by decide); rw [h9, e9] at ht; omega
      · have e9 : Jvm.Op.lookupswitch.offset [(6, 131), (18, 131), (19, 131), (20, 133), (21, 135), (22, 133), (23, 143), (25, 131), (31, 131), (32, 131), (35, 131), (40, 131), (148, 131), (155, 131), (159, 131)] (145) (148) = 131 := (by decide); rw [h9, e9] at ht; omega
      · have e9 : Jvm.Op.lookupswitch.offset [(6, 131), (18, 131), (19, 131), (20, 133), (21, 135), (22, 133), (23, 143), (25, 131), (31, 131), (32, 131), (35, 131), (40, 131), (148, 131), (155, 131), (159, 131)] (145) (155) = 131 := (by decide); rw [h9, e9] at ht; omega
      · have e9 : Jvm.Op.lookupswitch.offset [(6, 131), (18, 131), (19, 131), (20, 133), (21, 135), (22, 133), (23, 143), (25, 131), (31, 131), (32, 131), (35, 131), (40, 131), (148, 131), (155, 131), (159, 131)] (145) (159) = 131 := (by decide); rw [h9, e9] at ht; omega
    subst et
    refine pw_iconst (v := (1 : Int32)) (aX9_wanted 1 rfl) rfl ?_
    exact pw_iret (aX9_wanted 2 rfl) hok
  skip
  refine pw_ite (pw_case ((a1).toInt = 20 ∨ (a1).toInt = 22) (fun b2 => ?_) (fun b2 => ?_))
  · have et : tg = 134 := by
      rcases b2 with h9 | h9
      · have e9 : Jvm.Op.lookupswitch.offset [(6, 131), (18, 131), (19, 131), (20, 133), (21, 135), (22, 133), (23, 143), (25, 131), (31, 131), (32, 131), (35, 131), (40, 131), (148, 131), (155, 131), (159, 131)] (145) (20) = 133 := (by decide); rw [h9, e9] at ht; omega
      · have e9 : Jvm.Op.lookupswitch.offset [(6, 131), (18, 131), (19, 131), (20, 133), (21, 135), (22, 133), (23, 143), (25, 131), (31, 131), (32, 131), (35, 131), (40, 131), (148, 131), (155, 131), (159, 131)] (145) (22) = 133 := (by decide); rw [h9, e9] at ht; omega
    subst et
    refine pw_iconst (v := (2 : Int32)) (aX9_wanted 3 rfl) rfl ?_
    exact pw_iret (aX9_wanted 4 rfl) hok
  skip
  refine pw_ite (pw_case ((a1).toInt = 21) (fun b3 => ?_) (fun b3 => ?_))
  · have et : tg = 136 := by
      have e9 : Jvm.Op.lookupswitch.offset [(6, 131), (18, 131), (19, 131), (20, 133), (21, 135), (22, 133), (23, 143), (25, 131), (31, 131), (32, 131), (35, 131), (40, 131), (148, 131), (155, 131), (159, 131)] (145) (21) = 135 := (by decide); rw [b3, e9] at ht; omega
    subst et
    refine pw_aloadn (aX9_wanted 5 rfl) rfl ?_
    refine pw_getr (v := .long (FL 48 12)) (aX9_wanted 6 rfl) uf_RX9_96 un_RX9_96 rfl ?_
    refine pw_l2i (aX9_wanted 7 rfl) ?_
    refine pw_iconst (v := (1 : Int32)) (aX9_wanted 8 rfl) rfl ?_
    refine pw_iadd (aX9_wanted 9 rfl) ?_
    exact pw_iret (aX9_wanted 10 rfl) hok
  skip
  refine pw_ite (pw_case ((a1).toInt = 23) (fun b4 => ?_) (fun b4 => ?_))
  · have et : tg = 144 := by
      have e9 : Jvm.Op.lookupswitch.offset [(6, 131), (18, 131), (19, 131), (20, 133), (21, 135), (22, 133), (23, 143), (25, 131), (31, 131), (32, 131), (35, 131), (40, 131), (148, 131), (155, 131), (159, 131)] (145) (23) = 143 := (by decide); rw [b4, e9] at ht; omega
    subst et
    refine pw_iconst (v := (3 : Int32)) (aX9_wanted 11 rfl) rfl ?_
    exact pw_iret (aX9_wanted 12 rfl) hok
  skip
  have et : tg = 146 := by
    simp only [Jvm.Op.lookupswitch.offset] at ht; rw [if_neg (by omega), if_neg (by omega), if_neg (by omega), if_neg (by omega), if_neg (by omega), if_neg (by omega), if_neg (by omega), if_neg (by omega), if_neg (by omega), if_neg (by omega), if_neg (by omega), if_neg (by omega), if_neg (by omega), if_neg (by omega), if_neg (by omega)] at ht; omega
  subst et
  refine pw_iloadn (aX9_wanted 13 rfl) rfl ?_
  refine pw_bipush (v := (26 : Int32)) (aX9_wanted 14 rfl) rfl ?_
  refine pw_ite (pw_iclt (tgt := 162) (aX9_wanted 15 rfl) (by decide) (fun b4 => ?_) (fun b4 => ?_))
  · skip
    refine pw_iconst (v := (0 : Int32)) (aX9_wanted 21 rfl) rfl ?_
    exact pw_iret (aX9_wanted 22 rfl) hok
  · skip
    refine pw_iloadn (aX9_wanted 16 rfl) rfl ?_
    refine pw_bipush (v := (46 : Int32)) (aX9_wanted 17 rfl) rfl ?_
    refine pw_ite (pw_icgt (tgt := 162) (aX9_wanted 18 rfl) (by decide) (fun b5 => ?_) (fun b5 => ?_))
    · skip
      refine pw_iconst (v := (0 : Int32)) (aX9_wanted 21 rfl) rfl ?_
      exact pw_iret (aX9_wanted 22 rfl) hok
    · skip
      refine pw_iconst (v := (2 : Int32)) (aX9_wanted 19 rfl) rfl ?_
      refine pw_goto (tgt := 163) (aX9_wanted 20 rfl) (by decide) ?_
      exact pw_iret (aX9_wanted 22 rfl) hok
set_option maxHeartbeats 4000000 in
set_option maxRecDepth 100000 in
theorem rX9_check_112 {sk : xK} {base N d : Nat}  (hkb : x_kb sk base) (a1 : Int32)   (n sl : Nat) (SH : Nat → Nat × Nat) (FI : Nat → Nat → Int32) (FL : Nat → Nat → Int64) (FR : Nat → Nat → Option Nat) (hok : pk n SH FR)   : pw pj_I sk base N d none 93 112 [(0, .ref (base + 48)), (1, .int (a1))] [] (n, sl, SH, FI, FL, FR) (RX9_check_112  a1  n sl SH FI FL FR) := by
  unfold RX9_check_112
  refine pw_aloadn (aX9_check 54 rfl) rfl ?_
  refine pw_getr (v := .int (FI 48 5)) (aX9_check 55 rfl) uf_RX9_62 un_RX9_62 rfl ?_
  refine pw_aloadn (aX9_check 56 rfl) rfl ?_
  refine pw_iloadn (aX9_check 57 rfl) rfl ?_
  refine pw_cf (pw_callV (Bs := [.int (a1)]) (rest := [.int (FI 48 5)]) (aX9_check 58 rfl) um_RX9_143 ujX9_wanted wc_RX9_143.2.2.2.2 (by decide) (by decide) rfl rfl (fun d => rX9_wanted hkb (a1) n sl SH FI FL FR hok) (fun v0 n0 sl0 SH0 FI0 FL0 FR0 _ hC => ?_))
  obtain ⟨rfl, hC⟩ := hC; cases hC
  show pw _ _ _ _ _ _ _ 121 _ [.int (fX9_wanted (a1) SH FI FL FR), .int (FI 48 5)] _ _
  refine pw_icge (tgt := 128) (aX9_check 59 rfl) (by decide) (fun b1 => ?_) (fun b1 => ?_)
  · skip
    refine pw_iconst (v := (3 : Int32)) (aX9_check 60 rfl) rfl ?_
    refine pw_goto (tgt := 129) (aX9_check 61 rfl) (by decide) ?_
    exact pw_iret (aX9_check 63 rfl) hok
  · skip
    refine pw_iconst (v := (0 : Int32)) (aX9_check 62 rfl) rfl ?_
    exact pw_iret (aX9_check 63 rfl) hok
set_option maxHeartbeats 4000000 in
set_option maxRecDepth 100000 in
theorem rX9_check_101 {sk : xK} {base N d : Nat}  (hkb : x_kb sk base) (a1 : Int32)   (n sl : Nat) (SH : Nat → Nat × Nat) (FI : Nat → Nat → Int32) (FL : Nat → Nat → Int64) (FR : Nat → Nat → Option Nat) (hok : pk n SH FR)   : pw pj_I sk base N d none 93 101 [(0, .ref (base + 48)), (1, .int (a1))] [] (n, sl, SH, FI, FL, FR) (RX9_check_101  a1  n sl SH FI FL FR) := by
  unfold RX9_check_101
  refine pw_aloadn (aX9_check 48 rfl) rfl ?_
  refine pw_iloadn (aX9_check 49 rfl) rfl ?_
  refine pw_cf (pw_callV (Bs := [.int (a1)]) (rest := []) (aX9_check 50 rfl) um_RX9_140 ujX9_isTooMuch wc_RX9_140.2.2.2.2 (by decide) (by decide) rfl rfl (fun d => rX9_isTooMuch hkb (a1) n sl SH FI FL FR hok) (fun v0 n0 sl0 SH0 FI0 FL0 FR0 _ hC => ?_))
  obtain ⟨rfl, hC⟩ := hC; cases hC
  show pw _ _ _ _ _ _ _ 106 _ [.int (fX9_isTooMuch (a1) SH FI FL FR)] _ _
  refine pw_ifeq (tgt := 112) (aX9_check 51 rfl) (by decide) (fun b1 => ?_) (fun b1 => ?_)
  · skip
    exact pw_Li (L2 := [(0, .ref (base + 48)), (1, .int (a1))]) [0, 1] (rX9_check_112 hkb a1  n sl SH FI FL FR hok  ) ⟨rfl, rfl, trivial⟩
  · skip
    refine pw_bipush (v := (13 : Int32)) (aX9_check 52 rfl) rfl ?_
    exact pw_iret (aX9_check 53 rfl) hok
set_option maxHeartbeats 4000000 in
set_option maxRecDepth 100000 in
theorem rX9_check_87 {sk : xK} {base N d : Nat}  (hkb : x_kb sk base) (a1 : Int32)   (n sl : Nat) (SH : Nat → Nat × Nat) (FI : Nat → Nat → Int32) (FL : Nat → Nat → Int64) (FR : Nat → Nat → Option Nat) (hok : pk n SH FR)   : pw pj_I sk base N d none 93 87 [(0, .ref (base + 48)), (1, .int (a1))] [] (n, sl, SH, FI, FL, FR) (RX9_check_87  a1  n sl SH FI FL FR) := by
  unfold RX9_check_87
  refine pw_iloadn (aX9_check 42 rfl) rfl ?_
  refine pw_sipush (v := (147 : Int32)) (aX9_check 43 rfl) rfl ?_
  refine pw_iceq (tgt := 101) (aX9_check 44 rfl) (by decide) (fun b0 => ?_) (fun b0 => ?_)
  · skip
    exact pw_Li (L2 := [(0, .ref (base + 48)), (1, .int (a1))]) [0, 1] (rX9_check_101 hkb a1  n sl SH FI FL FR hok  ) ⟨rfl, rfl, trivial⟩
  · skip
    refine pw_iloadn (aX9_check 45 rfl) rfl ?_
    refine pw_sipush (v := (157 : Int32)) (aX9_check 46 rfl) rfl ?_
    refine pw_icne (tgt := 112) (aX9_check 47 rfl) (by decide) (fun b1 => ?_) (fun b1 => ?_)
    · skip
      exact pw_Li (L2 := [(0, .ref (base + 48)), (1, .int (a1))]) [0, 1] (rX9_check_101 hkb a1  n sl SH FI FL FR hok  ) ⟨rfl, rfl, trivial⟩
    · skip
      exact pw_Li (L2 := [(0, .ref (base + 48)), (1, .int (a1))]) [0, 1] (rX9_check_112 hkb a1  n sl SH FI FL FR hok  ) ⟨rfl, rfl, trivial⟩
set_option maxHeartbeats 4000000 in
set_option maxRecDepth 100000 in
theorem rX9_check_57 {sk : xK} {base N d : Nat}  (hkb : x_kb sk base) (a1 : Int32)   (n sl : Nat) (SH : Nat → Nat × Nat) (FI : Nat → Nat → Int32) (FL : Nat → Nat → Int64) (FR : Nat → Nat → Option Nat) (hok : pk n SH FR)   : pw pj_I sk base N d none 93 57 [(0, .ref (base + 48)), (1, .int (a1))] [] (n, sl, SH, FI, FL, FR) (RX9_check_57  a1  n sl SH FI FL FR) := by
  unfold RX9_check_57
  refine pw_iloadn (aX9_check 27 rfl) rfl ?_
  refine pw_sipush (v := (148 : Int32)) (aX9_check 28 rfl) rfl ?_
  refine pw_icne (tgt := 87) (aX9_check 29 rfl) (by decide) (fun b0 => ?_) (fun b0 => ?_)
  · skip
    refine pw_aloadn (aX9_check 30 rfl) rfl ?_
    refine pw_getr (v := .long (FL 48 12)) (aX9_check 31 rfl) uf_RX9_96 un_RX9_96 rfl ?_
    refine pw_lconst (v := (1 : Int64)) (aX9_check 32 rfl) rfl ?_
    refine pw_lclt (tgt := 84) (aX9_check 33 rfl) (aX9_check 34 rfl) (by decide) (fun b1 => ?_) (fun b1 => ?_)
    · skip
      refine pw_bipush (v := (10 : Int32)) (aX9_check 40 rfl) rfl ?_
      exact pw_iret (aX9_check 41 rfl) hok
    · skip
      refine pw_aloadn (aX9_check 35 rfl) rfl ?_
      refine pw_getr (v := .long (FL 48 12)) (aX9_check 36 rfl) uf_RX9_96 un_RX9_96 rfl ?_
      refine pw_ldc2 (v := (8 : Int64)) (aX9_check 37 rfl) uk_RX9_138 ?_
      refine pw_lcle (tgt := 87) (aX9_check 38 rfl) (aX9_check 39 rfl) (by decide) (fun b2 => ?_) (fun b2 => ?_)
      · skip
        refine pw_bipush (v := (10 : Int32)) (aX9_check 40 rfl) rfl ?_
        exact pw_iret (aX9_check 41 rfl) hok
      · skip
        exact pw_Li (L2 := [(0, .ref (base + 48)), (1, .int (a1))]) [0, 1] (rX9_check_87 hkb a1  n sl SH FI FL FR hok  ) ⟨rfl, rfl, trivial⟩
  · skip
    exact pw_Li (L2 := [(0, .ref (base + 48)), (1, .int (a1))]) [0, 1] (rX9_check_87 hkb a1  n sl SH FI FL FR hok  ) ⟨rfl, rfl, trivial⟩
set_option maxHeartbeats 4000000 in
set_option maxRecDepth 100000 in
theorem rX9_check_34 {sk : xK} {base N d : Nat}  (hkb : x_kb sk base) (a1 : Int32)   (n sl : Nat) (SH : Nat → Nat × Nat) (FI : Nat → Nat → Int32) (FL : Nat → Nat → Int64) (FR : Nat → Nat → Option Nat) (hok : pk n SH FR)   : pw pj_I sk base N d none 93 34 [(0, .ref (base + 48)), (1, .int (a1))] [] (n, sl, SH, FI, FL, FR) (RX9_check_34  a1  n sl SH FI FL FR) := by
  unfold RX9_check_34
  refine pw_aloadn (aX9_check 15 rfl) rfl ?_
  refine pw_getr (v := .long (FL 48 12)) (aX9_check 16 rfl) uf_RX9_96 un_RX9_96 rfl ?_
  refine pw_lconst (v := (0 : Int64)) (aX9_check 17 rfl) rfl ?_
  refine pw_lclt (tgt := 54) (aX9_check 18 rfl) (aX9_check 19 rfl) (by decide) (fun b0 => ?_) (fun b0 => ?_)
  · skip
    refine pw_bipush (v := (14 : Int32)) (aX9_check 25 rfl) rfl ?_
    exact pw_iret (aX9_check 26 rfl) hok
  · skip
    refine pw_aloadn (aX9_check 20 rfl) rfl ?_
    refine pw_getr (v := .long (FL 48 12)) (aX9_check 21 rfl) uf_RX9_96 un_RX9_96 rfl ?_
    refine pw_ldc2 (v := (32 : Int64)) (aX9_check 22 rfl) uk_RX9_136 ?_
    refine pw_lclt (tgt := 57) (aX9_check 23 rfl) (aX9_check 24 rfl) (by decide) (fun b1 => ?_) (fun b1 => ?_)
    · skip
      exact pw_Li (L2 := [(0, .ref (base + 48)), (1, .int (a1))]) [0, 1] (rX9_check_57 hkb a1  n sl SH FI FL FR hok  ) ⟨rfl, rfl, trivial⟩
    · skip
      refine pw_bipush (v := (14 : Int32)) (aX9_check 25 rfl) rfl ?_
      exact pw_iret (aX9_check 26 rfl) hok
set_option maxHeartbeats 4000000 in
set_option maxRecDepth 100000 in
theorem rX9_check_20 {sk : xK} {base N d : Nat}  (hkb : x_kb sk base) (a1 : Int32)   (n sl : Nat) (SH : Nat → Nat × Nat) (FI : Nat → Nat → Int32) (FL : Nat → Nat → Int64) (FR : Nat → Nat → Option Nat) (hok : pk n SH FR)   : pw pj_I sk base N d none 93 20 [(0, .ref (base + 48)), (1, .int (a1))] [] (n, sl, SH, FI, FL, FR) (RX9_check_20  a1  n sl SH FI FL FR) := by
  unfold RX9_check_20
  refine pw_iloadn (aX9_check 9 rfl) rfl ?_
  refine pw_sipush (v := (144 : Int32)) (aX9_check 10 rfl) rfl ?_
  refine pw_iceq (tgt := 34) (aX9_check 11 rfl) (by decide) (fun b0 => ?_) (fun b0 => ?_)
  · skip
    exact pw_Li (L2 := [(0, .ref (base + 48)), (1, .int (a1))]) [0, 1] (rX9_check_34 hkb a1  n sl SH FI FL FR hok  ) ⟨rfl, rfl, trivial⟩
  · skip
    refine pw_iloadn (aX9_check 12 rfl) rfl ?_
    refine pw_sipush (v := (146 : Int32)) (aX9_check 13 rfl) rfl ?_
    refine pw_icne (tgt := 57) (aX9_check 14 rfl) (by decide) (fun b1 => ?_) (fun b1 => ?_)
    · skip
      exact pw_Li (L2 := [(0, .ref (base + 48)), (1, .int (a1))]) [0, 1] (rX9_check_34 hkb a1  n sl SH FI FL FR hok  ) ⟨rfl, rfl, trivial⟩
    · skip
      exact pw_Li (L2 := [(0, .ref (base + 48)), (1, .int (a1))]) [0, 1] (rX9_check_57 hkb a1  n sl SH FI FL FR hok  ) ⟨rfl, rfl, trivial⟩
set_option maxHeartbeats 4000000 in
set_option maxRecDepth 100000 in
theorem rX9_check {sk : xK} {base N d : Nat} (hkb : x_kb sk base) (a1 : Int32) (n sl : Nat) (SH : Nat → Nat × Nat) (FI : Nat → Nat → Int32) (FL : Nat → Nat → Int64) (FR : Nat → Nat → Option Nat) (hok : pk n SH FR)  : pw pj_I sk base N d none 93 0 [(0, .ref (base + 48)), (1, .int (a1))] [] (n, sl, SH, FI, FL, FR) (RX9_check a1 n sl SH FI FL FR) := by
  unfold RX9_check
  refine pw_aloadn (aX9_check 0 rfl) rfl ?_
  refine pw_getr (v := .ref (base + 71)) (aX9_check 1 rfl) uf_RX9_18 un_RX9_18 (congrArg (fun r => va_rf (h_rf base r)) (q48_3 (hok).2.1)) ?_
  refine pw_getr (v := .int (FI 71 0)) (aX9_check 2 rfl) uf_RX9_127 un_RX9_127 rfl ?_
  refine pw_ifeq (tgt := 20) (aX9_check 3 rfl) (by decide) (fun b0 => ?_) (fun b0 => ?_)
  · skip
    exact pw_Li (L2 := [(0, .ref (base + 48)), (1, .int (a1))]) [0, 1] (rX9_check_20 hkb a1  n sl SH FI FL FR hok  ) ⟨rfl, rfl, trivial⟩
  · skip
    refine pw_iloadn (aX9_check 4 rfl) rfl ?_
    refine pw_cf (pw_callS (As := [.int (a1)]) (rest := []) (aX9_check 5 rfl) um_RX9_130 ujX9_goesWithHold wc_RX9_130.2.2.2.2 (by decide) rfl rfl (fun d => rX9_goesWithHold hkb (a1) n sl SH FI FL FR hok) (fun v1 n1 sl1 SH1 FI1 FL1 FR1 _ hC => ?_))
    obtain ⟨rfl, hC⟩ := hC; cases hC
    show pw _ _ _ _ _ _ _ 14 _ [.int (fX9_goesWithHold (a1) SH FI FL FR)] _ _
    refine pw_ifne (tgt := 20) (aX9_check 6 rfl) (by decide) (fun b2 => ?_) (fun b2 => ?_)
    · skip
      refine pw_bipush (v := (9 : Int32)) (aX9_check 7 rfl) rfl ?_
      exact pw_iret (aX9_check 8 rfl) hok
    · skip
      exact pw_Li (L2 := [(0, .ref (base + 48)), (1, .int (a1))]) [0, 1] (rX9_check_20 hkb a1  n sl SH FI FL FR hok  ) ⟨rfl, rfl, trivial⟩
set_option maxHeartbeats 4000000 in
set_option maxRecDepth 100000 in
theorem rX9_push {sk : xK} {base N d : Nat} (hkb : x_kb sk base) (a1 : Int64) (n sl : Nat) (SH : Nat → Nat × Nat) (FI : Nat → Nat → Int32) (FL : Nat → Nat → Int64) (FR : Nat → Nat → Option Nat) (hok : pk n SH FR)  : pw pj_I sk base N d none 99 0 [(0, .ref (base + 48)), (1, .long (a1))] [] (n, sl, SH, FI, FL, FR) (RX9_push a1 n sl SH FI FL FR) := by
  unfold RX9_push
  refine pw_aloadn (aX9_push 0 rfl) rfl ?_
  refine pw_getr (v := .int (FI 48 5)) (aX9_push 1 rfl) uf_RX9_62 un_RX9_62 rfl ?_
  refine pw_aloadn (aX9_push 2 rfl) rfl ?_
  refine pw_getr (v := .ref (base + 70)) (aX9_push 3 rfl) uf_RX9_11 un_RX9_11 (congrArg (fun r => va_rf (h_rf base r)) (q48_2 (hok).2.1)) ?_
  refine pw_alenr hkb (c := 70) (aX9_push 4 rfl) ?_
  refine pw_iclt (tgt := 14) (aX9_push 5 rfl) (by decide) (fun b0 => ?_) (fun b0 => ?_)
  · skip
    refine pw_aloadn (aX9_push 8 rfl) rfl ?_
    refine pw_getr (v := .ref (base + 70)) (aX9_push 9 rfl) uf_RX9_11 un_RX9_11 (congrArg (fun r => va_rf (h_rf base r)) (q48_2 (hok).2.1)) ?_
    refine pw_aloadn (aX9_push 10 rfl) rfl ?_
    refine pw_getr (v := .int (FI 48 5)) (aX9_push 11 rfl) uf_RX9_62 un_RX9_62 rfl ?_
    refine pw_lloadn (aX9_push 12 rfl) rfl ?_
    refine pw_lastr (c := 70) (ix := (FI 48 5).toInt.toNat) (aX9_push 13 rfl) rfl (fun _ => ?_)
    refine pw_aloadn (aX9_push 14 rfl) rfl ?_
    refine pw_dup (aX9_push 15 rfl) ?_
    refine pw_getr (v := .int (FI 48 5)) (aX9_push 16 rfl) uf_RX9_62 un_RX9_62 rfl ?_
    refine pw_iconst (v := (1 : Int32)) (aX9_push 17 rfl) rfl ?_
    refine pw_iadd (aX9_push 18 rfl) ?_
    refine pw_putri (aX9_push 19 rfl) uf_RX9_62 (fun _ _ _ => rfl) (fun t2 => ?_)
    refine pw_aloadn (aX9_push 20 rfl) rfl ?_
    refine pw_aloadn (aX9_push 21 rfl) rfl ?_
    refine pw_getr (v := .int (FI 48 8)) (aX9_push 22 rfl) uf_RX9_59 un_RX9_59 rfl ?_
    refine pw_aloadn (aX9_push 23 rfl) rfl ?_
    refine pw_getr (v := .int ((FI 48 5) + ((1 : Int32)))) (aX9_push 24 rfl) uf_RX9_62 un_RX9_62 rfl ?_
    refine pw_cf (pw_callS (As := [.int (FI 48 8), .int ((FI 48 5) + ((1 : Int32)))]) (rest := [.ref (base + 48)]) (aX9_push 25 rfl) um_RX9_188 ujJ9_max_7cf53 wc_RX9_188.2.2.2.2 (by decide) rfl rfl (fun d => rJ9_max_7cf53 hkb (FI 48 8) ((FI 48 5) + ((1 : Int32))) n sl SH (h_up FI 48 5 ((FI 48 5) + ((1 : Int32)))) (h_up FL 70 (FI 48 5).toInt.toNat (a1)) FR hok) (fun v2 n2 sl2 SH2 FI2 FL2 FR2 _ hC => ?_))
    obtain ⟨rfl, hC⟩ := hC; cases hC
    show pw _ _ _ _ _ _ _ 46 _ [.int (fJ9_max_7cf53 (FI 48 8) ((FI 48 5) + ((1 : Int32))) SH (h_up FI 48 5 ((FI 48 5) + ((1 : Int32)))) (h_up FL 70 (FI 48 5).toInt.toNat (a1)) FR), .ref (base + 48)] _ _
    refine pw_putri (aX9_push 26 rfl) uf_RX9_59 (fun _ _ _ => rfl) (fun t4 => ?_)
    refine pw_iconst (v := (0 : Int32)) (aX9_push 27 rfl) rfl ?_
    exact pw_iret (aX9_push 28 rfl) hok
  · skip
    refine pw_iconst (v := (4 : Int32)) (aX9_push 6 rfl) rfl ?_
    exact pw_iret (aX9_push 7 rfl) hok
set_option maxHeartbeats 4000000 in
set_option maxRecDepth 100000 in
theorem rX9_pushBytes {sk : xK} {base N d : Nat} (hkb : x_kb sk base) (a1 : Int64) (a2 : Int32) (n sl : Nat) (SH : Nat → Nat × Nat) (FI : Nat → Nat → Int32) (FL : Nat → Nat → Int64) (FR : Nat → Nat → Option Nat) (hok : pk n SH FR)  : pw pj_I sk base N d none 100 0 [(0, .ref (base + 48)), (1, .long (a1)), (3, .int (a2))] [] (n, sl, SH, FI, FL, FR) (RX9_pushBytes a1 a2 n sl SH FI FL FR) := by
  unfold RX9_pushBytes
  refine pw_aloadn (aX9_pushBytes 0 rfl) rfl ?_
  refine pw_getr (v := .ref (base + 23)) (aX9_pushBytes 1 rfl) uf_RX9_29 un_RX9_29 (congrArg (fun r => va_rf (h_rf base r)) (q48_0 (hok).2.1)) ?_
  refine pw_lloadn (aX9_pushBytes 2 rfl) rfl ?_
  refine pw_iloadn (aX9_pushBytes 3 rfl) rfl ?_
  refine pw_cf (pw_callV (Bs := [.long (a1), .int (a2)]) (rest := []) (aX9_pushBytes 4 rfl) um_RX9_193 ujX1_hasBytes wc_RX9_193.2.2.2.2 (by decide) (by decide) rfl rfl (fun d => rX1_hasBytes hkb (a1) (a2) n sl SH FI FL FR hok) (fun v0 n0 sl0 SH0 FI0 FL0 FR0 _ hC => ?_))
  obtain ⟨rfl, hC⟩ := hC; cases hC
  show pw _ _ _ _ _ _ _ 9 _ [.int (fX1_hasBytes (a1) (a2) SH FI FL FR)] _ _
  refine pw_ifeq (tgt := 28) (aX9_pushBytes 5 rfl) (by decide) (fun b1 => ?_) (fun b1 => ?_)
  · skip
    refine pw_iconst (v := (5 : Int32)) (aX9_pushBytes 14 rfl) rfl ?_
    exact pw_iret (aX9_pushBytes 15 rfl) hok
  · skip
    refine pw_aloadn (aX9_pushBytes 6 rfl) rfl ?_
    refine pw_aloadn (aX9_pushBytes 7 rfl) rfl ?_
    refine pw_getr (v := .ref (base + 23)) (aX9_pushBytes 8 rfl) uf_RX9_29 un_RX9_29 (congrArg (fun r => va_rf (h_rf base r)) (q48_0 (hok).2.1)) ?_
    refine pw_lloadn (aX9_pushBytes 9 rfl) rfl ?_
    refine pw_iloadn (aX9_pushBytes 10 rfl) rfl ?_
    refine pw_callV (Bs := [.long (a1), .int (a2)]) (rest := [.ref (base + 48)]) (aX9_pushBytes 11 rfl) um_RX9_197 ujX1_bytes wc_RX9_197.2.2.2.2 (by decide) (by decide) rfl rfl (fun d => rX1_bytes hkb (a1) (a2) n sl SH FI FL FR hok) (fun v2 n2 sl2 SH2 FI2 FL2 FR2 hok2 _ => ?_)
    show pw _ _ _ _ _ _ _ 22 _ [.long (v2), .ref (base + 48)] _ _
    refine pw_callV (Bs := [.long (v2)]) (rest := []) (aX9_pushBytes 12 rfl) um_RX9_158 ujX9_push wc_RX9_158.2.2.2.2 (by decide) (by decide) rfl rfl (fun d => rX9_push hkb (v2) n2 sl2 SH2 FI2 FL2 FR2 hok2) (fun v3 n3 sl3 SH3 FI3 FL3 FR3 hok3 _ => ?_)
    show pw _ _ _ _ _ _ _ 25 _ [.int (v3)] _ _
    refine pw_goto (tgt := 29) (aX9_pushBytes 13 rfl) (by decide) ?_
    exact pw_iret (aX9_pushBytes 15 rfl) hok3
set_option maxHeartbeats 4000000 in
set_option maxRecDepth 100000 in
theorem rX9_pop {sk : xK} {base N d : Nat} (hkb : x_kb sk base)  (n sl : Nat) (SH : Nat → Nat × Nat) (FI : Nat → Nat → Int32) (FL : Nat → Nat → Int64) (FR : Nat → Nat → Option Nat) (hok : pk n SH FR)  : pw pj_J sk base N d none 101 0 [(0, .ref (base + 48))] [] (n, sl, SH, FI, FL, FR) (RX9_pop  n sl SH FI FL FR) := by
  unfold RX9_pop
  refine pw_aloadn (aX9_pop 0 rfl) rfl ?_
  refine pw_getr (v := .int (FI 48 5)) (aX9_pop 1 rfl) uf_RX9_62 un_RX9_62 rfl ?_
  refine pw_ifle (tgt := 19) (aX9_pop 2 rfl) (by decide) (fun b0 => ?_) (fun b0 => ?_)
  · skip
    refine pw_aloadn (aX9_pop 3 rfl) rfl ?_
    refine pw_getr (v := .int (FI 48 5)) (aX9_pop 4 rfl) uf_RX9_62 un_RX9_62 rfl ?_
    refine pw_aloadn (aX9_pop 5 rfl) rfl ?_
    refine pw_getr (v := .ref (base + 70)) (aX9_pop 6 rfl) uf_RX9_11 un_RX9_11 (congrArg (fun r => va_rf (h_rf base r)) (q48_2 (hok).2.1)) ?_
    refine pw_alenr hkb (c := 70) (aX9_pop 7 rfl) ?_
    refine pw_icle (tgt := 21) (aX9_pop 8 rfl) (by decide) (fun b1 => ?_) (fun b1 => ?_)
    · skip
      refine pw_lconst (v := (0 : Int64)) (aX9_pop 9 rfl) rfl ?_
      exact pw_lret (aX9_pop 10 rfl) hok
    · skip
      refine pw_aloadn (aX9_pop 11 rfl) rfl ?_
      refine pw_dup (aX9_pop 12 rfl) ?_
      refine pw_getr (v := .int (FI 48 5)) (aX9_pop 13 rfl) uf_RX9_62 un_RX9_62 rfl ?_
      refine pw_iconst (v := (1 : Int32)) (aX9_pop 14 rfl) rfl ?_
      refine pw_isub (aX9_pop 15 rfl) ?_
      refine pw_putri (aX9_pop 16 rfl) uf_RX9_62 (fun _ _ _ => rfl) (fun t3 => ?_)
      refine pw_aloadn (aX9_pop 17 rfl) rfl ?_
      refine pw_getr (v := .ref (base + 70)) (aX9_pop 18 rfl) uf_RX9_11 un_RX9_11 (congrArg (fun r => va_rf (h_rf base r)) (q48_2 (hok).2.1)) ?_
      refine pw_aloadn (aX9_pop 19 rfl) rfl ?_
      refine pw_getr (v := .int ((FI 48 5) - ((1 : Int32)))) (aX9_pop 20 rfl) uf_RX9_62 un_RX9_62 rfl ?_
      refine pw_laldr (c := 70) (ix := ((FI 48 5) - ((1 : Int32))).toInt.toNat) (aX9_pop 21 rfl) rfl (fun _ => ?_)
      exact pw_lret (aX9_pop 22 rfl) hok
  · skip
    refine pw_lconst (v := (0 : Int64)) (aX9_pop 9 rfl) rfl ?_
    exact pw_lret (aX9_pop 10 rfl) hok
set_option maxHeartbeats 4000000 in
set_option maxRecDepth 100000 in
theorem rX9_below {sk : xK} {base N d : Nat} (hkb : x_kb sk base) (a1 : Int32) (n sl : Nat) (SH : Nat → Nat × Nat) (FI : Nat → Nat → Int32) (FL : Nat → Nat → Int64) (FR : Nat → Nat → Option Nat) (hok : pk n SH FR)  : pw pj_J sk base N d none 102 0 [(0, .ref (base + 48)), (1, .int (a1))] [] (n, sl, SH, FI, FL, FR) (P_ret (fX9_below a1 SH FI FL FR) (n, sl, SH, FI, FL, FR)) := by
  unfold fX9_below
  refine pw_aloadn (aX9_below 0 rfl) rfl ?_
  refine pw_getr (v := .int (FI 48 5)) (aX9_below 1 rfl) uf_RX9_62 un_RX9_62 rfl ?_
  refine pw_iconst (v := (1 : Int32)) (aX9_below 2 rfl) rfl ?_
  refine pw_isub (aX9_below 3 rfl) ?_
  refine pw_iloadn (aX9_below 4 rfl) rfl ?_
  refine pw_isub (aX9_below 5 rfl) ?_
  refine pw_istoren (L2 := [(2, .int (((FI 48 5) - ((1 : Int32))) - (a1))), (0, .ref (base + 48)), (1, .int (a1))]) (aX9_below 6 rfl) rfl ?_
  refine pw_iloadn (aX9_below 7 rfl) rfl ?_
  refine pw_ite (pw_iflt (tgt := 22) (aX9_below 8 rfl) (by decide) (fun b0 => ?_) (fun b0 => ?_))
  · skip
    refine pw_lconst (v := (0 : Int64)) (aX9_below 14 rfl) rfl ?_
    refine pw_goto (tgt := 32) (aX9_below 15 rfl) (by decide) ?_
    exact pw_lret (aX9_below 20 rfl) hok
  · skip
    refine pw_iloadn (aX9_below 9 rfl) rfl ?_
    refine pw_aloadn (aX9_below 10 rfl) rfl ?_
    refine pw_getr (v := .ref (base + 70)) (aX9_below 11 rfl) uf_RX9_11 un_RX9_11 (congrArg (fun r => va_rf (h_rf base r)) (q48_2 (hok).2.1)) ?_
    refine pw_alenr hkb (c := 70) (aX9_below 12 rfl) ?_
    refine pw_ite (pw_iclt (tgt := 26) (aX9_below 13 rfl) (by decide) (fun b1 => ?_) (fun b1 => ?_))
    · skip
      refine pw_aloadn (aX9_below 16 rfl) rfl ?_
      refine pw_getr (v := .ref (base + 70)) (aX9_below 17 rfl) uf_RX9_11 un_RX9_11 (congrArg (fun r => va_rf (h_rf base r)) (q48_2 (hok).2.1)) ?_
      refine pw_iloadn (aX9_below 18 rfl) rfl ?_
      refine pw_sd (pw_laldr (c := 70) (ix := (((FI 48 5) - ((1 : Int32))) - (a1)).toInt.toNat) (aX9_below 19 rfl) rfl (fun _ => ?_))
      exact pw_lret (aX9_below 20 rfl) hok
    · skip
      refine pw_lconst (v := (0 : Int64)) (aX9_below 14 rfl) rfl ?_
      refine pw_goto (tgt := 32) (aX9_below 15 rfl) (by decide) ?_
      exact pw_lret (aX9_below 20 rfl) hok
set_option maxHeartbeats 4000000 in
set_option maxRecDepth 100000 in
theorem rX9_shuffle {sk : xK} {base N d : Nat} (hkb : x_kb sk base) (a1 : Int32) (n sl : Nat) (SH : Nat → Nat × Nat) (FI : Nat → Nat → Int32) (FL : Nat → Nat → Int64) (FR : Nat → Nat → Option Nat) (hok : pk n SH FR)  : pw pj_I sk base N d none 103 0 [(0, .ref (base + 48)), (1, .int (a1))] [] (n, sl, SH, FI, FL, FR) (RX9_shuffle a1 n sl SH FI FL FR) := by
  unfold RX9_shuffle
  refine pw_iloadn (aX9_shuffle 0 rfl) rfl ?_
  refine pw_tsw aX9_shuffle_1 (fun tg ht => ?_)
  refine pw_case ((a1).toInt = 18) (fun b1 => ?_) (fun b1 => ?_)
  · have et : tg = 32 := by
      rcases ht with ⟨h8, -⟩ | ⟨-, -, off, ho, ht⟩; { exact absurd h8 (by omega) }; { rw [b1] at ho; have e9 : off = (31 : Int) := (Option.some.inj (show some (31 : Int) = some off from ho)).symm; omega }
    subst et
    refine pw_aloadn (aX9_shuffle 1 rfl) rfl ?_
    refine pw_aloadn (aX9_shuffle 2 rfl) rfl ?_
    refine pw_iconst (v := (0 : Int32)) (aX9_shuffle 3 rfl) rfl ?_
    refine pw_cf (pw_callV (Bs := [.int ((0 : Int32))]) (rest := [.ref (base + 48)]) (aX9_shuffle 4 rfl) um_RX9_201 ujX9_below wc_RX9_201.2.2.2.2 (by decide) (by decide) rfl rfl (fun d => rX9_below hkb ((0 : Int32)) n sl SH FI FL FR hok) (fun v1 n1 sl1 SH1 FI1 FL1 FR1 _ hC => ?_))
    obtain ⟨rfl, hC⟩ := hC; cases hC
    show pw _ _ _ _ _ _ _ 38 _ [.long (fX9_below ((0 : Int32)) SH FI FL FR), .ref (base + 48)] _ _
    refine pw_callV (Bs := [.long (fX9_below ((0 : Int32)) SH FI FL FR)]) (rest := []) (aX9_shuffle 5 rfl) um_RX9_158 ujX9_push wc_RX9_158.2.2.2.2 (by decide) (by decide) rfl rfl (fun d => rX9_push hkb (fX9_below ((0 : Int32)) SH FI FL FR) n sl SH FI FL FR hok) (fun v2 n2 sl2 SH2 FI2 FL2 FR2 hok2 _ => ?_)
    show pw _ _ _ _ _ _ _ 41 _ [.int (v2)] _ _
    exact pw_iret (aX9_shuffle 6 rfl) hok2
  skip
  refine pw_case ((a1).toInt = 19) (fun b4 => ?_) (fun b4 => ?_)
  · have et : tg = 42 := by
      rcases ht with ⟨h8, -⟩ | ⟨-, -, off, ho, ht⟩; { exact absurd h8 (by omega) }; { rw [b4] at ho; have e9 : off = (41 : Int) := (Option.some.inj (show some (41 : Int) = some off from ho)).symm; omega }
    subst et
    refine pw_aloadn (aX9_shuffle 7 rfl) rfl ?_
    refine pw_callV (Bs := []) (rest := []) (aX9_shuffle 8 rfl) um_RX9_92 ujX9_pop wc_RX9_92.2.2.2.2 (by decide) (by decide) rfl rfl (fun d => rX9_pop hkb  n sl SH FI FL FR hok) (fun v4 n4 sl4 SH4 FI4 FL4 FR4 hok4 _ => ?_)
    show pw _ _ _ _ _ _ _ 46 _ [.long (v4)] _ _
    refine pw_pop2 (aX9_shuffle 9 rfl) ?_
    refine pw_iconst (v := (0 : Int32)) (aX9_shuffle 10 rfl) rfl ?_
    exact pw_iret (aX9_shuffle 11 rfl) hok4
  skip
  refine pw_case ((a1).toInt = 20) (fun b6 => ?_) (fun b6 => ?_)
  · have et : tg = 49 := by
      rcases ht with ⟨h8, -⟩ | ⟨-, -, off, ho, ht⟩; { exact absurd h8 (by omega) }; { rw [b6] at ho; have e9 : off = (48 : Int) := (Option.some.inj (show some (48 : Int) = some off from ho)).symm; omega }
    subst et
    refine pw_aloadn (aX9_shuffle 12 rfl) rfl ?_
    refine pw_aloadn (aX9_shuffle 13 rfl) rfl ?_
    refine pw_iconst (v := (1 : Int32)) (aX9_shuffle 14 rfl) rfl ?_
    refine pw_cf (pw_callV (Bs := [.int ((1 : Int32))]) (rest := [.ref (base + 48)]) (aX9_shuffle 15 rfl) um_RX9_201 ujX9_below wc_RX9_201.2.2.2.2 (by decide) (by decide) rfl rfl (fun d => rX9_below hkb ((1 : Int32)) n sl SH FI FL FR hok) (fun v6 n6 sl6 SH6 FI6 FL6 FR6 _ hC => ?_))
    obtain ⟨rfl, hC⟩ := hC; cases hC
    show pw _ _ _ _ _ _ _ 55 _ [.long (fX9_below ((1 : Int32)) SH FI FL FR), .ref (base + 48)] _ _
    refine pw_callV (Bs := [.long (fX9_below ((1 : Int32)) SH FI FL FR)]) (rest := []) (aX9_shuffle 16 rfl) um_RX9_158 ujX9_push wc_RX9_158.2.2.2.2 (by decide) (by decide) rfl rfl (fun d => rX9_push hkb (fX9_below ((1 : Int32)) SH FI FL FR) n sl SH FI FL FR hok) (fun v7 n7 sl7 SH7 FI7 FL7 FR7 hok7 _ => ?_)
    show pw _ _ _ _ _ _ _ 58 _ [.int (v7)] _ _
    exact pw_iret (aX9_shuffle 17 rfl) hok7
  skip
  refine pw_case ((a1).toInt = 21) (fun b9 => ?_) (fun b9 => ?_)
  · have et : tg = 59 := by
      rcases ht with ⟨h8, -⟩ | ⟨-, -, off, ho, ht⟩; { exact absurd h8 (by omega) }; { rw [b9] at ho; have e9 : off = (58 : Int) := (Option.some.inj (show some (58 : Int) = some off from ho)).symm; omega }
    subst et
    refine pw_aloadn (aX9_shuffle 18 rfl) rfl ?_
    refine pw_aloadn (aX9_shuffle 19 rfl) rfl ?_
    refine pw_aloadn (aX9_shuffle 20 rfl) rfl ?_
    refine pw_getr (v := .long (FL 48 12)) (aX9_shuffle 21 rfl) uf_RX9_96 un_RX9_96 rfl ?_
    refine pw_l2i (aX9_shuffle 22 rfl) ?_
    refine pw_cf (pw_callV (Bs := [.int ((FL 48 12).toInt32)]) (rest := [.ref (base + 48)]) (aX9_shuffle 23 rfl) um_RX9_201 ujX9_below wc_RX9_201.2.2.2.2 (by decide) (by decide) rfl rfl (fun d => rX9_below hkb ((FL 48 12).toInt32) n sl SH FI FL FR hok) (fun v9 n9 sl9 SH9 FI9 FL9 FR9 _ hC => ?_))
    obtain ⟨rfl, hC⟩ := hC; cases hC
    show pw _ _ _ _ _ _ _ 69 _ [.long (fX9_below ((FL 48 12).toInt32) SH FI FL FR), .ref (base + 48)] _ _
    refine pw_callV (Bs := [.long (fX9_below ((FL 48 12).toInt32) SH FI FL FR)]) (rest := []) (aX9_shuffle 24 rfl) um_RX9_158 ujX9_push wc_RX9_158.2.2.2.2 (by decide) (by decide) rfl rfl (fun d => rX9_push hkb (fX9_below ((FL 48 12).toInt32) SH FI FL FR) n sl SH FI FL FR hok) (fun v10 n10 sl10 SH10 FI10 FL10 FR10 hok10 _ => ?_)
    show pw _ _ _ _ _ _ _ 72 _ [.int (v10)] _ _
    exact pw_iret (aX9_shuffle 25 rfl) hok10
  skip
  have et : tg = 73 := by
    rcases ht with ⟨-, h8⟩ | ⟨h1, h2, -⟩; { omega }; { exfalso; omega }
  subst et
  refine pw_aloadn (aX9_shuffle 26 rfl) rfl ?_
  refine pw_callV (Bs := []) (rest := []) (aX9_shuffle 27 rfl) um_RX9_92 ujX9_pop wc_RX9_92.2.2.2.2 (by decide) (by decide) rfl rfl (fun d => rX9_pop hkb  n sl SH FI FL FR hok) (fun v11 n11 sl11 SH11 FI11 FL11 FR11 hok11 _ => ?_)
  show pw _ _ _ _ _ _ _ 77 _ [.long (v11)] _ _
  refine pw_lstoren (L2 := [(2, .long (v11)), (0, .ref (base + 48)), (1, .int (a1))]) (aX9_shuffle 28 rfl) rfl ?_
  refine pw_aloadn (aX9_shuffle 29 rfl) rfl ?_
  refine pw_callV (Bs := []) (rest := []) (aX9_shuffle 30 rfl) um_RX9_92 ujX9_pop wc_RX9_92.2.2.2.2 (by decide) (by decide) rfl rfl (fun d => rX9_pop hkb  n11 sl11 SH11 FI11 FL11 FR11 hok11) (fun v12 n12 sl12 SH12 FI12 FL12 FR12 hok12 _ => ?_)
  show pw _ _ _ _ _ _ _ 82 _ [.long (v12)] _ _
  refine pw_lstore (L2 := [(4, .long (v12)), (2, .long (v11)), (0, .ref (base + 48)), (1, .int (a1))]) (aX9_shuffle 31 rfl) rfl ?_
  refine pw_iloadn (aX9_shuffle 32 rfl) rfl ?_
  refine pw_bipush (v := (22 : Int32)) (aX9_shuffle 33 rfl) rfl ?_
  refine pw_icne (tgt := 103) (aX9_shuffle 34 rfl) (by decide) (fun b13 => ?_) (fun b13 => ?_)
  · skip
    refine pw_aloadn (aX9_shuffle 35 rfl) rfl ?_
    refine pw_lloadn (aX9_shuffle 36 rfl) rfl ?_
    refine pw_callV (Bs := [.long (v11)]) (rest := []) (aX9_shuffle 37 rfl) um_RX9_158 ujX9_push wc_RX9_158.2.2.2.2 (by decide) (by decide) rfl rfl (fun d => rX9_push hkb (v11) n12 sl12 SH12 FI12 FL12 FR12 hok12) (fun v14 n14 sl14 SH14 FI14 FL14 FR14 hok14 _ => ?_)
    show pw _ _ _ _ _ _ _ 95 _ [.int (v14)] _ _
    refine pw_pop (aX9_shuffle 38 rfl) ?_
    refine pw_aloadn (aX9_shuffle 39 rfl) rfl ?_
    refine pw_lload (aX9_shuffle 40 rfl) rfl ?_
    refine pw_callV (Bs := [.long (v12)]) (rest := []) (aX9_shuffle 41 rfl) um_RX9_158 ujX9_push wc_RX9_158.2.2.2.2 (by decide) (by decide) rfl rfl (fun d => rX9_push hkb (v12) n14 sl14 SH14 FI14 FL14 FR14 hok14) (fun v15 n15 sl15 SH15 FI15 FL15 FR15 hok15 _ => ?_)
    show pw _ _ _ _ _ _ _ 102 _ [.int (v15)] _ _
    exact pw_iret (aX9_shuffle 42 rfl) hok15
  · skip
    refine pw_aloadn (aX9_shuffle 43 rfl) rfl ?_
    refine pw_callV (Bs := []) (rest := []) (aX9_shuffle 44 rfl) um_RX9_92 ujX9_pop wc_RX9_92.2.2.2.2 (by decide) (by decide) rfl rfl (fun d => rX9_pop hkb  n12 sl12 SH12 FI12 FL12 FR12 hok12) (fun v16 n16 sl16 SH16 FI16 FL16 FR16 hok16 _ => ?_)
    show pw _ _ _ _ _ _ _ 107 _ [.long (v16)] _ _
    refine pw_lstore (L2 := [(6, .long (v16)), (4, .long (v12)), (2, .long (v11)), (0, .ref (base + 48)), (1, .int (a1))]) (aX9_shuffle 45 rfl) rfl ?_
    refine pw_aloadn (aX9_shuffle 46 rfl) rfl ?_
    refine pw_lloadn (aX9_shuffle 47 rfl) rfl ?_
    refine pw_callV (Bs := [.long (v11)]) (rest := []) (aX9_shuffle 48 rfl) um_RX9_158 ujX9_push wc_RX9_158.2.2.2.2 (by decide) (by decide) rfl rfl (fun d => rX9_push hkb (v11) n16 sl16 SH16 FI16 FL16 FR16 hok16) (fun v17 n17 sl17 SH17 FI17 FL17 FR17 hok17 _ => ?_)
    show pw _ _ _ _ _ _ _ 114 _ [.int (v17)] _ _
    refine pw_pop (aX9_shuffle 49 rfl) ?_
    refine pw_aloadn (aX9_shuffle 50 rfl) rfl ?_
    refine pw_lload (aX9_shuffle 51 rfl) rfl ?_
    refine pw_callV (Bs := [.long (v16)]) (rest := []) (aX9_shuffle 52 rfl) um_RX9_158 ujX9_push wc_RX9_158.2.2.2.2 (by decide) (by decide) rfl rfl (fun d => rX9_push hkb (v16) n17 sl17 SH17 FI17 FL17 FR17 hok17) (fun v18 n18 sl18 SH18 FI18 FL18 FR18 hok18 _ => ?_)
    show pw _ _ _ _ _ _ _ 121 _ [.int (v18)] _ _
    refine pw_pop (aX9_shuffle 53 rfl) ?_
    refine pw_aloadn (aX9_shuffle 54 rfl) rfl ?_
    refine pw_lload (aX9_shuffle 55 rfl) rfl ?_
    refine pw_callV (Bs := [.long (v12)]) (rest := []) (aX9_shuffle 56 rfl) um_RX9_158 ujX9_push wc_RX9_158.2.2.2.2 (by decide) (by decide) rfl rfl (fun d => rX9_push hkb (v12) n18 sl18 SH18 FI18 FL18 FR18 hok18) (fun v19 n19 sl19 SH19 FI19 FL19 FR19 hok19 _ => ?_)
    show pw _ _ _ _ _ _ _ 128 _ [.int (v19)] _ _
    exact pw_iret (aX9_shuffle 57 rfl) hok19
set_option maxHeartbeats 4000000 in
set_option maxRecDepth 100000 in
theorem rX9_changed {sk : xK} {base N d : Nat} (hkb : x_kb sk base) (a1 : Int32) (a2 : Int64) (n sl : Nat) (SH : Nat → Nat × Nat) (FI : Nat → Nat → Int32) (FL : Nat → Nat → Int64) (FR : Nat → Nat → Option Nat) (hok : pk n SH FR)  : pw pj_J sk base N d none 104 0 [(0, .ref (base + 48)), (1, .int (a1)), (2, .long (a2))] [] (n, sl, SH, FI, FL, FR) (P_ret (fX9_changed a1 a2 SH FI FL FR) (n, sl, SH, FI, FL, FR)) := by
  unfold fX9_changed
  refine pw_iloadn (aX9_changed 0 rfl) rfl ?_
  refine pw_lsw aX9_changed_1 (fun tg ht => ?_)
  refine pw_ite (pw_case ((a1).toInt = 25) (fun b1 => ?_) (fun b1 => ?_))
  · have et : tg = 36 := by
      have e9 : Jvm.Op.lookupswitch.offset [(25, 35), (31, 48), (32, 51)] (57) (25) = 35 := (by decide); rw [b1, e9] at ht; omega
    subst et
    refine pw_lloadn (aX9_changed 1 rfl) rfl ?_
    refine pw_lconst (v := (0 : Int64)) (aX9_changed 2 rfl) rfl ?_
    refine pw_ite (pw_lcge (tgt := 47) (aX9_changed 3 rfl) (aX9_changed 4 rfl) (by decide) (fun b1 => ?_) (fun b1 => ?_))
    · skip
      refine pw_lloadn (aX9_changed 5 rfl) rfl ?_
      refine pw_lneg (aX9_changed 6 rfl) ?_
      refine pw_goto (tgt := 48) (aX9_changed 7 rfl) (by decide) ?_
      exact pw_lret (aX9_changed 9 rfl) hok
    · skip
      refine pw_lloadn (aX9_changed 8 rfl) rfl ?_
      exact pw_lret (aX9_changed 9 rfl) hok
  skip
  refine pw_ite (pw_case ((a1).toInt = 31) (fun b3 => ?_) (fun b3 => ?_))
  · have et : tg = 49 := by
      have e9 : Jvm.Op.lookupswitch.offset [(25, 35), (31, 48), (32, 51)] (57) (31) = 48 := (by decide); rw [b3, e9] at ht; omega
    subst et
    refine pw_lloadn (aX9_changed 10 rfl) rfl ?_
    refine pw_lneg (aX9_changed 11 rfl) ?_
    exact pw_lret (aX9_changed 12 rfl) hok
  skip
  refine pw_ite (pw_case ((a1).toInt = 32) (fun b4 => ?_) (fun b4 => ?_))
  · have et : tg = 52 := by
      have e9 : Jvm.Op.lookupswitch.offset [(25, 35), (31, 48), (32, 51)] (57) (32) = 51 := (by decide); rw [b4, e9] at ht; omega
    subst et
    refine pw_lloadn (aX9_changed 13 rfl) rfl ?_
    refine pw_ldc2 (v := (-1 : Int64)) (aX9_changed 14 rfl) uk_RX9_125 ?_
    refine pw_lxor (aX9_changed 15 rfl) ?_
    exact pw_lret (aX9_changed 16 rfl) hok
  skip
  have et : tg = 58 := by
    simp only [Jvm.Op.lookupswitch.offset] at ht; rw [if_neg (by omega), if_neg (by omega), if_neg (by omega)] at ht; omega
  subst et
  refine pw_lloadn (aX9_changed 17 rfl) rfl ?_
  refine pw_aloadn (aX9_changed 18 rfl) rfl ?_
  refine pw_getr (v := .long (FL 48 12)) (aX9_changed 19 rfl) uf_RX9_96 un_RX9_96 rfl ?_
  refine pw_ladd (aX9_changed 20 rfl) ?_
  exact pw_lret (aX9_changed 21 rfl) hok
set_option maxHeartbeats 4000000 in
set_option maxRecDepth 100000 in
theorem rX9_keep {sk : xK} {base N d : Nat} (hkb : x_kb sk base) (a1 : Int32) (a2 : Option Nat) (n sl : Nat) (SH : Nat → Nat × Nat) (FI : Nat → Nat → Int32) (FL : Nat → Nat → Int64) (FR : Nat → Nat → Option Nat) (hok : pk n SH FR)  : pw pj_I sk base N d none 106 0 [(0, .ref (base + 48)), (1, .int (a1)), (2, va_rf (h_rf base (a2)))] [] (n, sl, SH, FI, FL, FR) (RX9_keep a1 a2 n sl SH FI FL FR) := by
  unfold RX9_keep
  refine pw_iloadn (aX9_keep 0 rfl) rfl ?_
  refine pw_sipush (v := (158 : Int32)) (aX9_keep 1 rfl) rfl ?_
  refine pw_icne (tgt := 28) (aX9_keep 2 rfl) (by decide) (fun b0 => ?_) (fun b0 => ?_)
  · skip
    refine pw_aloadn (aX9_keep 3 rfl) rfl ?_
    refine pw_getr (v := .ref (base + 71)) (aX9_keep 4 rfl) uf_RX9_18 un_RX9_18 (congrArg (fun r => va_rf (h_rf base r)) (q48_3 (hok).2.1)) ?_
    refine pw_aloadn (aX9_keep 5 rfl) rfl ?_
    refine pw_aloadn (aX9_keep 6 rfl) rfl ?_
    refine pw_getr (v := .long (FL 48 13)) (aX9_keep 7 rfl) uf_RX9_118 un_RX9_118 rfl ?_
    refine pw_l2i (aX9_keep 8 rfl) ?_
    refine pw_aloadn (aX9_keep 9 rfl) rfl ?_
    refine pw_getr (v := .long (FL 48 12)) (aX9_keep 10 rfl) uf_RX9_96 un_RX9_96 rfl ?_
    refine pw_l2i (aX9_keep 11 rfl) ?_
    refine pw_callV (Bs := [va_rf (h_rf base (a2)), .int ((FL 48 13).toInt32), .int ((FL 48 12).toInt32)]) (L2 := [(0, .ref (base + 71)), (1, va_rf (h_rf base (a2))), (2, .int ((FL 48 13).toInt32)), (3, .int ((FL 48 12).toInt32))]) (rest := []) (aX9_keep 12 rfl) um_RX9_234 ujX5_becomeBlock wc_RX9_234.2.2.2.2 (by decide) (by decide) rfl (by first | rfl | simp [lv_args, va_cat, va_ci, va_cl, va_cr, va_cn]) (fun d => rX5_becomeBlock hkb 71 (a2) ((FL 48 13).toInt32) ((FL 48 12).toInt32) n sl SH FI FL FR hok) (fun v1 n1 sl1 SH1 FI1 FL1 FR1 hok1 _ => ?_)
    show pw _ _ _ _ _ _ _ 25 _ [] _ _
    refine pw_goto (tgt := 40) (aX9_keep 13 rfl) (by decide) ?_
    refine pw_iconst (v := (0 : Int32)) (aX9_keep 20 rfl) rfl ?_
    exact pw_iret (aX9_keep 21 rfl) hok1
  · skip
    refine pw_aloadn (aX9_keep 14 rfl) rfl ?_
    refine pw_getr (v := .ref (base + 71)) (aX9_keep 15 rfl) uf_RX9_18 un_RX9_18 (congrArg (fun r => va_rf (h_rf base r)) (q48_3 (hok).2.1)) ?_
    refine pw_iconst (v := (3 : Int32)) (aX9_keep 16 rfl) rfl ?_
    refine pw_aloadn (aX9_keep 17 rfl) rfl ?_
    refine pw_callV (Bs := []) (rest := [.int ((3 : Int32)), .ref (base + 71)]) (aX9_keep 18 rfl) um_RX9_92 ujX9_pop wc_RX9_92.2.2.2.2 (by decide) (by decide) rfl rfl (fun d => rX9_pop hkb  n sl SH FI FL FR hok) (fun v2 n2 sl2 SH2 FI2 FL2 FR2 hok2 _ => ?_)
    show pw _ _ _ _ _ _ _ 37 _ [.long (v2), .int ((3 : Int32)), .ref (base + 71)] _ _
    refine pw_callV (Bs := [.int ((3 : Int32)), .long (v2)]) (rest := []) (aX9_keep 19 rfl) um_RX9_65 ujX5_become wc_RX9_65.2.2.2.2 (by decide) (by decide) rfl rfl (fun d => rX5_become hkb 71 ((3 : Int32)) (v2) n2 sl2 SH2 FI2 FL2 FR2 hok2) (fun v3 n3 sl3 SH3 FI3 FL3 FR3 hok3 _ => ?_)
    show pw _ _ _ _ _ _ _ 40 _ [] _ _
    refine pw_iconst (v := (0 : Int32)) (aX9_keep 20 rfl) rfl ?_
    exact pw_iret (aX9_keep 21 rfl) hok3
set_option maxHeartbeats 4000000 in
set_option maxRecDepth 100000 in
theorem rX9_holdTop {sk : xK} {base N d : Nat} (hkb : x_kb sk base)  (n sl : Nat) (SH : Nat → Nat × Nat) (FI : Nat → Nat → Int32) (FL : Nat → Nat → Int64) (FR : Nat → Nat → Option Nat) (hok : pk n SH FR)  : pw pj_V sk base N d none 108 0 [(0, .ref (base + 48))] [] (n, sl, SH, FI, FL, FR) (RX9_holdTop  n sl SH FI FL FR) := by
  unfold RX9_holdTop
  refine pw_aloadn (aX9_holdTop 0 rfl) rfl ?_
  refine pw_getr (v := .ref (base + 71)) (aX9_holdTop 1 rfl) uf_RX9_18 un_RX9_18 (congrArg (fun r => va_rf (h_rf base r)) (q48_3 (hok).2.1)) ?_
  refine pw_getr (v := .int (FI 71 0)) (aX9_holdTop 2 rfl) uf_RX9_127 un_RX9_127 rfl ?_
  refine pw_ifne (tgt := 30) (aX9_holdTop 3 rfl) (by decide) (fun b0 => ?_) (fun b0 => ?_)
  · skip
    refine pw_aloadn (aX9_holdTop 4 rfl) rfl ?_
    refine pw_getr (v := .int (FI 48 5)) (aX9_holdTop 5 rfl) uf_RX9_62 un_RX9_62 rfl ?_
    refine pw_ifle (tgt := 30) (aX9_holdTop 6 rfl) (by decide) (fun b1 => ?_) (fun b1 => ?_)
    · skip
      refine pw_aloadn (aX9_holdTop 7 rfl) rfl ?_
      refine pw_getr (v := .ref (base + 71)) (aX9_holdTop 8 rfl) uf_RX9_18 un_RX9_18 (congrArg (fun r => va_rf (h_rf base r)) (q48_3 (hok).2.1)) ?_
      refine pw_iconst (v := (1 : Int32)) (aX9_holdTop 9 rfl) rfl ?_
      refine pw_aloadn (aX9_holdTop 10 rfl) rfl ?_
      refine pw_iconst (v := (0 : Int32)) (aX9_holdTop 11 rfl) rfl ?_
      refine pw_cf (pw_callV (Bs := [.int ((0 : Int32))]) (rest := [.int ((1 : Int32)), .ref (base + 71)]) (aX9_holdTop 12 rfl) um_RX9_201 ujX9_below wc_RX9_201.2.2.2.2 (by decide) (by decide) rfl rfl (fun d => rX9_below hkb ((0 : Int32)) n sl SH FI FL FR hok) (fun v2 n2 sl2 SH2 FI2 FL2 FR2 _ hC => ?_))
      obtain ⟨rfl, hC⟩ := hC; cases hC
      show pw _ _ _ _ _ _ _ 27 _ [.long (fX9_below ((0 : Int32)) SH FI FL FR), .int ((1 : Int32)), .ref (base + 71)] _ _
      refine pw_callV (Bs := [.int ((1 : Int32)), .long (fX9_below ((0 : Int32)) SH FI FL FR)]) (rest := []) (aX9_holdTop 13 rfl) um_RX9_65 ujX5_become wc_RX9_65.2.2.2.2 (by decide) (by decide) rfl rfl (fun d => rX5_become hkb 71 ((1 : Int32)) (fX9_below ((0 : Int32)) SH FI FL FR) n sl SH FI FL FR hok) (fun v3 n3 sl3 SH3 FI3 FL3 FR3 hok3 _ => ?_)
      show pw _ _ _ _ _ _ _ 30 _ [] _ _
      exact pw_vret (aX9_holdTop 14 rfl) hok3
    · skip
      exact pw_vret (aX9_holdTop 14 rfl) hok
  · skip
    exact pw_vret (aX9_holdTop 14 rfl) hok
set_option maxHeartbeats 4000000 in
set_option maxRecDepth 100000 in
theorem rX9_addPiece {sk : xK} {base N d : Nat} (hkb : x_kb sk base) (a1 : Int32) (a2 : Int32) (n sl : Nat) (SH : Nat → Nat × Nat) (FI : Nat → Nat → Int32) (FL : Nat → Nat → Int64) (FR : Nat → Nat → Option Nat) (hok : pk n SH FR)  : pw pj_I sk base N d none 107 0 [(0, .ref (base + 48)), (1, .int (a1)), (2, .int (a2))] [] (n, sl, SH, FI, FL, FR) (RX9_addPiece a1 a2 n sl SH FI FL FR) := by
  unfold RX9_addPiece
  refine pw_aloadn (aX9_addPiece 0 rfl) rfl ?_
  refine pw_callV (Bs := []) (rest := []) (aX9_addPiece 1 rfl) um_RX9_238 ujX9_holdTop wc_RX9_238.2.2.2.2 (by decide) (by decide) rfl rfl (fun d => rX9_holdTop hkb  n sl SH FI FL FR hok) (fun v0 n0 sl0 SH0 FI0 FL0 FR0 hok0 _ => ?_)
  show pw _ _ _ _ _ _ _ 4 _ [] _ _
  refine pw_aloadn (aX9_addPiece 2 rfl) rfl ?_
  refine pw_getr (v := .ref (base + 72)) (aX9_addPiece 3 rfl) uf_RX9_25 un_RX9_25 (congrArg (fun r => va_rf (h_rf base r)) (q48_4 (hok0).2.1)) ?_
  refine pw_aloadn (aX9_addPiece 4 rfl) rfl ?_
  refine pw_getr (v := .ref (base + 71)) (aX9_addPiece 5 rfl) uf_RX9_18 un_RX9_18 (congrArg (fun r => va_rf (h_rf base r)) (q48_3 (hok0).2.1)) ?_
  refine pw_iloadn (aX9_addPiece 6 rfl) rfl ?_
  refine pw_iloadn (aX9_addPiece 7 rfl) rfl ?_
  refine pw_callV (Bs := [.ref (base + 71), .int (a1), .int (a2)]) (rest := []) (aX9_addPiece 8 rfl) um_RX9_241 ujX8_addPiece wc_RX9_241.2.2.2.2 (by decide) (by decide) rfl rfl (fun d => rX8_addPiece hkb 72 (some 71) (a1) (a2) n0 sl0 SH0 FI0 FL0 FR0 hok0) (fun v1 n1 sl1 SH1 FI1 FL1 FR1 hok1 _ => ?_)
  show pw _ _ _ _ _ _ _ 17 _ [] _ _
  refine pw_aloadn (aX9_addPiece 9 rfl) rfl ?_
  refine pw_getr (v := .ref (base + 71)) (aX9_addPiece 10 rfl) uf_RX9_18 un_RX9_18 (congrArg (fun r => va_rf (h_rf base r)) (q48_3 (hok1).2.1)) ?_
  refine pw_iconst (v := (0 : Int32)) (aX9_addPiece 11 rfl) rfl ?_
  refine pw_lconst (v := (0 : Int64)) (aX9_addPiece 12 rfl) rfl ?_
  refine pw_callV (Bs := [.int ((0 : Int32)), .long ((0 : Int64))]) (rest := []) (aX9_addPiece 13 rfl) um_RX9_65 ujX5_become wc_RX9_65.2.2.2.2 (by decide) (by decide) rfl rfl (fun d => rX5_become hkb 71 ((0 : Int32)) ((0 : Int64)) n1 sl1 SH1 FI1 FL1 FR1 hok1) (fun v2 n2 sl2 SH2 FI2 FL2 FR2 hok2 _ => ?_)
  show pw _ _ _ _ _ _ _ 26 _ [] _ _
  refine pw_aloadn (aX9_addPiece 14 rfl) rfl ?_
  refine pw_iconst (v := (0 : Int32)) (aX9_addPiece 15 rfl) rfl ?_
  refine pw_putri (aX9_addPiece 16 rfl) uf_RX9_62 (fun _ _ _ => rfl) (fun t4 => ?_)
  refine pw_iconst (v := (0 : Int32)) (aX9_addPiece 17 rfl) rfl ?_
  exact pw_iret (aX9_addPiece 18 rfl) hok2
set_option maxHeartbeats 4000000 in
set_option maxRecDepth 100000 in
theorem rX9_settle {sk : xK} {base N d : Nat} (hkb : x_kb sk base)  (n sl : Nat) (SH : Nat → Nat × Nat) (FI : Nat → Nat → Int32) (FL : Nat → Nat → Int64) (FR : Nat → Nat → Option Nat) (hok : pk n SH FR)  : pw pj_I sk base N d none 109 0 [(0, .ref (base + 48))] [] (n, sl, SH, FI, FL, FR) (RX9_settle  n sl SH FI FL FR) := by
  unfold RX9_settle
  refine pw_aloadn (aX9_settle 0 rfl) rfl ?_
  refine pw_getr (v := .ref (base + 72)) (aX9_settle 1 rfl) uf_RX9_25 un_RX9_25 (congrArg (fun r => va_rf (h_rf base r)) (q48_4 (hok).2.1)) ?_
  refine pw_getr (v := .int (FI 72 1)) (aX9_settle 2 rfl) uf_RX9_146 un_RX9_146 rfl ?_
  refine pw_ifle (tgt := 34) (aX9_settle 3 rfl) (by decide) (fun b0 => ?_) (fun b0 => ?_)
  · skip
    refine pw_aloadn (aX9_settle 4 rfl) rfl ?_
    refine pw_getr (v := .ref (base + 71)) (aX9_settle 5 rfl) uf_RX9_18 un_RX9_18 (congrArg (fun r => va_rf (h_rf base r)) (q48_3 (hok).2.1)) ?_
    refine pw_getr (v := .int (FI 71 0)) (aX9_settle 6 rfl) uf_RX9_127 un_RX9_127 rfl ?_
    refine pw_ifne (tgt := 27) (aX9_settle 7 rfl) (by decide) (fun b1 => ?_) (fun b1 => ?_)
    · skip
      refine pw_aloadn (aX9_settle 8 rfl) rfl ?_
      refine pw_getr (v := .int (FI 48 5)) (aX9_settle 9 rfl) uf_RX9_62 un_RX9_62 rfl ?_
      refine pw_ifle (tgt := 32) (aX9_settle 10 rfl) (by decide) (fun b2 => ?_) (fun b2 => ?_)
      · skip
        refine pw_bipush (v := (13 : Int32)) (aX9_settle 11 rfl) rfl ?_
        refine pw_goto (tgt := 33) (aX9_settle 12 rfl) (by decide) ?_
        exact pw_iret (aX9_settle 14 rfl) hok
      · skip
        refine pw_iconst (v := (0 : Int32)) (aX9_settle 13 rfl) rfl ?_
        exact pw_iret (aX9_settle 14 rfl) hok
    · skip
      refine pw_bipush (v := (13 : Int32)) (aX9_settle 11 rfl) rfl ?_
      refine pw_goto (tgt := 33) (aX9_settle 12 rfl) (by decide) ?_
      exact pw_iret (aX9_settle 14 rfl) hok
  · skip
    refine pw_aloadn (aX9_settle 15 rfl) rfl ?_
    refine pw_callV (Bs := []) (rest := []) (aX9_settle 16 rfl) um_RX9_238 ujX9_holdTop wc_RX9_238.2.2.2.2 (by decide) (by decide) rfl rfl (fun d => rX9_holdTop hkb  n sl SH FI FL FR hok) (fun v3 n3 sl3 SH3 FI3 FL3 FR3 hok3 _ => ?_)
    show pw _ _ _ _ _ _ _ 38 _ [] _ _
    refine pw_aloadn (aX9_settle 17 rfl) rfl ?_
    refine pw_getr (v := .ref (base + 72)) (aX9_settle 18 rfl) uf_RX9_25 un_RX9_25 (congrArg (fun r => va_rf (h_rf base r)) (q48_4 (hok3).2.1)) ?_
    refine pw_callV (Bs := []) (rest := []) (aX9_settle 19 rfl) um_RX9_244 ujX8_only wc_RX9_244.2.2.2.2 (by decide) (by decide) rfl rfl (fun d => rX8_only hkb 72 n3 sl3 SH3 FI3 FL3 FR3 hok3) (fun v4 n4 sl4 SH4 FI4 FL4 FR4 hok4 _ => ?_)
    show pw _ _ _ _ _ _ _ 45 _ [va_rf (h_rf base (v4))] _ _
    refine pw_aloadn (aX9_settle 20 rfl) rfl ?_
    refine pw_getr (v := .ref (base + 71)) (aX9_settle 21 rfl) uf_RX9_18 un_RX9_18 (congrArg (fun r => va_rf (h_rf base r)) (q48_3 (hok4).2.1)) ?_
    refine pw_callVo (o := v4) (Bs := [.ref (base + 71)]) (rest := []) (aX9_settle 22 rfl) um_RX9_248 ujX5_take wc_RX9_248.2.2.2.2 (by decide) (by decide) rfl (fun _ => rfl) (fun c6 hc6 d => rX5_take hkb c6 (some 71) n4 sl4 SH4 FI4 FL4 FR4 hok4) (fun c6 hc6 v6 n6 sl6 SH6 FI6 FL6 FR6 hok6 _ => ?_)
    show pw _ _ _ _ _ _ _ 52 _ [] _ _
    refine pw_iconst (v := (0 : Int32)) (aX9_settle 23 rfl) rfl ?_
    exact pw_iret (aX9_settle 24 rfl) hok6
set_option maxHeartbeats 4000000 in
set_option maxRecDepth 100000 in
theorem rX9_takeBase {sk : xK} {base N d : Nat} (hkb : x_kb sk base) (a1 : Option Nat) (n sl : Nat) (SH : Nat → Nat × Nat) (FI : Nat → Nat → Int32) (FL : Nat → Nat → Int64) (FR : Nat → Nat → Option Nat) (hok : pk n SH FR)  : pw pj_I sk base N d none 111 0 [(0, .ref (base + 48)), (1, va_rf (h_rf base (a1)))] [] (n, sl, SH, FI, FL, FR) (RX9_takeBase a1 n sl SH FI FL FR) := by
  unfold RX9_takeBase
  refine pw_aloadn (aX9_takeBase 0 rfl) rfl ?_
  refine pw_callVo (o := a1) (Bs := []) (rest := []) (aX9_takeBase 1 rfl) um_RX9_244 ujX8_only wc_RX9_244.2.2.2.2 (by decide) (by decide) rfl (fun _ => rfl) (fun c1 hc1 d => rX8_only hkb c1 n sl SH FI FL FR hok) (fun c1 hc1 v1 n1 sl1 SH1 FI1 FL1 FR1 hok1 _ => ?_)
  show pw _ _ _ _ _ _ _ 4 _ [va_rf (h_rf base (v1))] _ _
  refine pw_astoren (L2 := [(2, va_rf (h_rf base (v1))), (0, .ref (base + 48)), (1, va_rf (h_rf base (a1)))]) (aX9_takeBase 2 rfl) (by first | rfl | (simp [x_s1, x_s2, va_cat, va_ci, va_cl, va_cr, va_cn]; done) | (simp [x_s1, x_s2, va_cat, va_ci, va_cl, va_cr, va_cn]; decide)) ?_
  refine pw_aloadn (aX9_takeBase 3 rfl) rfl ?_
  refine pw_get (o := a1) (v := fun c3 => .int (FI1 c3 1)) (aX9_takeBase 4 rfl) uf_RX9_146 un_RX9_146 (fun _ => rfl) (fun c3 hc3 _ tc3 => ?_)
  refine pw_ifgt (tgt := 27) (aX9_takeBase 5 rfl) (by decide) (fun b3 => ?_) (fun b3 => ?_)
  · skip
    refine pw_bipush (v := (11 : Int32)) (aX9_takeBase 13 rfl) rfl ?_
    exact pw_iret (aX9_takeBase 14 rfl) hok1
  · skip
    refine pw_aloadn (aX9_takeBase 6 rfl) rfl ?_
    refine pw_get (o := v1) (v := fun c5 => .int (FI1 c5 0)) (aX9_takeBase 7 rfl) uf_RX9_127 un_RX9_127 (fun _ => rfl) (fun c5 hc5 _ tc5 => ?_)
    refine pw_ifeq (tgt := 27) (aX9_takeBase 8 rfl) (by decide) (fun b5 => ?_) (fun b5 => ?_)
    · skip
      refine pw_bipush (v := (11 : Int32)) (aX9_takeBase 13 rfl) rfl ?_
      exact pw_iret (aX9_takeBase 14 rfl) hok1
    · skip
      refine pw_aloadn (aX9_takeBase 9 rfl) rfl ?_
      refine pw_get (o := v1) (v := fun c7 => .int (FI1 c7 0)) (aX9_takeBase 10 rfl) uf_RX9_127 un_RX9_127 (fun _ => rfl) (fun c7 hc7 _ tc7 => ?_)
      refine pw_iconst (v := (4 : Int32)) (aX9_takeBase 11 rfl) rfl ?_
      refine pw_icne (tgt := 30) (aX9_takeBase 12 rfl) (by decide) (fun b7 => ?_) (fun b7 => ?_)
      · skip
        refine pw_bipush (v := (11 : Int32)) (aX9_takeBase 13 rfl) rfl ?_
        exact pw_iret (aX9_takeBase 14 rfl) hok1
      · skip
        refine pw_aloadn (aX9_takeBase 15 rfl) rfl ?_
        refine pw_aloadn (aX9_takeBase 16 rfl) rfl ?_
        refine pw_get (o := v1) (v := fun c9 => .int (FI1 c9 0)) (aX9_takeBase 17 rfl) uf_RX9_127 un_RX9_127 (fun _ => rfl) (fun c9 hc9 _ tc9 => ?_)
        refine pw_iconst (v := (2 : Int32)) (aX9_takeBase 18 rfl) rfl ?_
        refine pw_icne (tgt := 53) (aX9_takeBase 19 rfl) (by decide) (fun b9 => ?_) (fun b9 => ?_)
        · skip
          refine pw_aloadn (aX9_takeBase 20 rfl) rfl ?_
          refine pw_getr (v := .ref (base + 23)) (aX9_takeBase 21 rfl) uf_RX9_29 un_RX9_29 (congrArg (fun r => va_rf (h_rf base r)) (q48_0 (hok1).2.1)) ?_
          refine pw_aloadn (aX9_takeBase 22 rfl) rfl ?_
          refine pw_get (o := v1) (v := fun c11 => .long (FL1 c11 1)) (aX9_takeBase 23 rfl) uf_RX9_259 un_RX9_259 (fun _ => rfl) (fun c11 hc11 _ tc11 => ?_)
          refine pw_cf (pw_callV (Bs := [.long (FL1 c11 1)]) (rest := [.ref (base + 48)]) (aX9_takeBase 24 rfl) um_RX9_162 ujX1_registerValue wc_RX9_162.2.2.2.2 (by decide) (by decide) rfl rfl (fun d => rX1_registerValue hkb (FL1 c11 1) n1 sl1 SH1 FI1 FL1 FR1 hok1) (fun v11 n11 sl11 SH11 FI11 FL11 FR11 _ hC => ?_))
          obtain ⟨rfl, hC⟩ := hC; cases hC
          show pw _ _ _ _ _ _ _ 50 _ [.long (fX1_registerValue (FL1 c11 1) SH1 FI1 FL1 FR1), .ref (base + 48)] _ _
          refine pw_goto (tgt := 57) (aX9_takeBase 25 rfl) (by decide) ?_
          refine pw_putrl (aX9_takeBase 28 rfl) uf_RX9_212 (fun _ _ _ => rfl) (fun t13 => ?_)
          refine pw_iconst (v := (0 : Int32)) (aX9_takeBase 29 rfl) rfl ?_
          exact pw_iret (aX9_takeBase 30 rfl) hok1
        · skip
          refine pw_aloadn (aX9_takeBase 26 rfl) rfl ?_
          refine pw_get (o := v1) (v := fun c14 => .long (FL1 c14 1)) (aX9_takeBase 27 rfl) uf_RX9_259 un_RX9_259 (fun _ => rfl) (fun c14 hc14 _ tc14 => ?_)
          refine pw_putrl (aX9_takeBase 28 rfl) uf_RX9_212 (fun _ _ _ => rfl) (fun t15 => ?_)
          refine pw_iconst (v := (0 : Int32)) (aX9_takeBase 29 rfl) rfl ?_
          exact pw_iret (aX9_takeBase 30 rfl) hok1
set_option maxHeartbeats 4000000 in
set_option maxRecDepth 100000 in
theorem rX9_base_88 {sk : xK} {base N d : Nat}  (hkb : x_kb sk base) (a1 : Int32) (a2 : Int32) (a3 : Int32) (l6i : Int32) (l4i : Int32) (l5o : Option Nat) (n sl : Nat) (SH : Nat → Nat × Nat) (FI : Nat → Nat → Int32) (FL : Nat → Nat → Int64) (FR : Nat → Nat → Option Nat) (hok : pk n SH FR)   : pw pj_I sk base N d none 110 88 [(0, .ref (base + 48)), (1, .int (a1)), (2, .int (a2)), (3, .int (a3)), (4, .int (l4i)), (5, va_rf (h_rf base (l5o))), (6, .int (l6i))] [] (n, sl, SH, FI, FL, FR) (RX9_base_88  a1 a2 a3 l6i n sl SH FI FL FR) := by
  unfold RX9_base_88
  refine pw_aloadn (aX9_base 43 rfl) rfl ?_
  refine pw_aloadn (aX9_base 44 rfl) rfl ?_
  refine pw_getr (v := .ref (base + 49)) (aX9_base 45 rfl) uf_RX9_33 un_RX9_33 (congrArg (fun r => va_rf (h_rf base r)) (q48_1 (hok).2.1)) ?_
  refine pw_getr (v := .int (FI 49 7)) (aX9_base 46 rfl) uf_RX9_56 un_RX9_56 rfl ?_
  refine pw_putri (aX9_base 47 rfl) uf_RX9_56 (fun _ _ _ => rfl) (fun t1 => ?_)
  refine pw_aloadn (aX9_base 48 rfl) rfl ?_
  refine pw_aloadn (aX9_base 49 rfl) rfl ?_
  refine pw_getr (v := .int (FI 48 8)) (aX9_base 50 rfl) uf_RX9_59 un_RX9_59 rfl ?_
  refine pw_aloadn (aX9_base 51 rfl) rfl ?_
  refine pw_getr (v := .ref (base + 49)) (aX9_base 52 rfl) uf_RX9_33 un_RX9_33 (congrArg (fun r => va_rf (h_rf base r)) (q48_1 (hok).2.1)) ?_
  refine pw_getr (v := .int (FI 49 8)) (aX9_base 53 rfl) uf_RX9_59 un_RX9_59 rfl ?_
  refine pw_cf (pw_callS (As := [.int (FI 48 8), .int (FI 49 8)]) (rest := [.ref (base + 48)]) (aX9_base 54 rfl) um_RX9_188 ujJ9_max_7cf53 wc_RX9_188.2.2.2.2 (by decide) rfl rfl (fun d => rJ9_max_7cf53 hkb (FI 48 8) (FI 49 8) n sl SH (h_up FI 48 7 (FI 49 7)) FL FR hok) (fun v1 n1 sl1 SH1 FI1 FL1 FR1 _ hC => ?_))
  obtain ⟨rfl, hC⟩ := hC; cases hC
  show pw _ _ _ _ _ _ _ 114 _ [.int (fJ9_max_7cf53 (FI 48 8) (FI 49 8) SH (h_up FI 48 7 (FI 49 7)) FL FR), .ref (base + 48)] _ _
  refine pw_putri (aX9_base 55 rfl) uf_RX9_59 (fun _ _ _ => rfl) (fun t3 => ?_)
  refine pw_iload (aX9_base 56 rfl) rfl ?_
  refine pw_ifne (tgt := 136) (aX9_base 57 rfl) (by decide) (fun b3 => ?_) (fun b3 => ?_)
  · skip
    refine pw_aloadn (aX9_base 58 rfl) rfl ?_
    refine pw_aloadn (aX9_base 59 rfl) rfl ?_
    refine pw_getr (v := .ref (base + 49)) (aX9_base 60 rfl) uf_RX9_33 un_RX9_33 (congrArg (fun r => va_rf (h_rf base r)) (q48_1 (hok).2.1)) ?_
    refine pw_getr (v := .ref (base + 52)) (aX9_base 61 rfl) uf_RX9_25 un_RX9_25 (congrArg (fun r => va_rf (h_rf base r)) (q49_4 (hok).2.1)) ?_
    refine pw_callV (Bs := [.ref (base + 52)]) (rest := []) (aX9_base 62 rfl) um_RX9_255 ujX9_takeBase wc_RX9_255.2.2.2.2 (by decide) (by decide) rfl rfl (fun d => rX9_takeBase hkb (some 52) n sl SH (h_up (h_up FI 48 7 (FI 49 7)) 48 8 (fJ9_max_7cf53 (FI 48 8) (FI 49 8) SH (h_up FI 48 7 (FI 49 7)) FL FR)) FL FR hok) (fun v4 n4 sl4 SH4 FI4 FL4 FR4 hok4 _ => ?_)
    show pw _ _ _ _ _ _ _ 133 _ [.int (v4)] _ _
    refine pw_goto (tgt := 138) (aX9_base 63 rfl) (by decide) ?_
    exact pw_iret (aX9_base 65 rfl) hok4
  · skip
    refine pw_iload (aX9_base 64 rfl) rfl ?_
    exact pw_iret (aX9_base 65 rfl) hok
set_option maxHeartbeats 4000000 in
set_option maxRecDepth 100000 in
theorem rX9_base {sk : xK} {base N d : Nat} (hkb : x_kb sk base) (a1 : Int32) (a2 : Int32) (a3 : Int32) (n sl : Nat) (SH : Nat → Nat × Nat) (FI : Nat → Nat → Int32) (FL : Nat → Nat → Int64) (FR : Nat → Nat → Option Nat) (hok : pk n SH FR)  : pw pj_I sk base N d none 110 0 [(0, .ref (base + 48)), (1, .int (a1)), (2, .int (a2)), (3, .int (a3))] [] (n, sl, SH, FI, FL, FR) (RX9_base a1 a2 a3 n sl SH FI FL FR) := by
  unfold RX9_base
  refine pw_aloadn (aX9_base 0 rfl) rfl ?_
  refine pw_getr (v := .ref (base + 23)) (aX9_base 1 rfl) uf_RX9_29 un_RX9_29 (congrArg (fun r => va_rf (h_rf base r)) (q48_0 (hok).2.1)) ?_
  refine pw_getr (v := .int (FI 23 4)) (aX9_base 2 rfl) uf_RX9_252 un_RX9_252 rfl ?_
  refine pw_istore (L2 := [(4, .int (FI 23 4)), (0, .ref (base + 48)), (1, .int (a1)), (2, .int (a2)), (3, .int (a3))]) (aX9_base 3 rfl) rfl ?_
  refine pw_aloadn (aX9_base 4 rfl) rfl ?_
  refine pw_getr (v := .ref (base + 49)) (aX9_base 5 rfl) uf_RX9_33 un_RX9_33 (congrArg (fun r => va_rf (h_rf base r)) (q48_1 (hok).2.1)) ?_
  refine pw_inull (o := some 49) (tgt := 34) (aX9_base 6 rfl) (by decide) (fun b0 => ?_) (fun b0 => ?_)
  · skip
    refine pw_bipush (v := (11 : Int32)) (aX9_base 15 rfl) rfl ?_
    exact pw_iret (aX9_base 16 rfl) hok
  · skip
    refine pw_iload (aX9_base 7 rfl) rfl ?_
    refine pw_iflt (tgt := 34) (aX9_base 8 rfl) (by decide) (fun b1 => ?_) (fun b1 => ?_)
    · skip
      refine pw_bipush (v := (11 : Int32)) (aX9_base 15 rfl) rfl ?_
      exact pw_iret (aX9_base 16 rfl) hok
    · skip
      refine pw_iload (aX9_base 9 rfl) rfl ?_
      refine pw_aloadn (aX9_base 10 rfl) rfl ?_
      refine pw_getr (v := .ref (base + 23)) (aX9_base 11 rfl) uf_RX9_29 un_RX9_29 (congrArg (fun r => va_rf (h_rf base r)) (q48_0 (hok).2.1)) ?_
      refine pw_getr (v := .ref (base + 26)) (aX9_base 12 rfl) uf_RX9_154 un_RX9_154 (congrArg (fun r => va_rf (h_rf base r)) (q23_2 (hok).2.1)) ?_
      refine pw_alenr hkb (c := 26) (aX9_base 13 rfl) ?_
      refine pw_iclt (tgt := 37) (aX9_base 14 rfl) (by decide) (fun b2 => ?_) (fun b2 => ?_)
      · skip
        refine pw_aloadn (aX9_base 17 rfl) rfl ?_
        refine pw_getr (v := .ref (base + 23)) (aX9_base 18 rfl) uf_RX9_29 un_RX9_29 (congrArg (fun r => va_rf (h_rf base r)) (q48_0 (hok).2.1)) ?_
        refine pw_getr (v := .ref (base + 26)) (aX9_base 19 rfl) uf_RX9_154 un_RX9_154 (congrArg (fun r => va_rf (h_rf base r)) (q23_2 (hok).2.1)) ?_
        refine pw_iload (aX9_base 20 rfl) rfl ?_
        refine pw_aaldr (c := 26) (ix := (FI 23 4).toInt.toNat) (aX9_base 21 rfl) rfl (fun _ => ?_)
        refine pw_astore (L2 := [(5, va_rf (h_rf base (FR 26 (FI 23 4).toInt.toNat))), (4, .int (FI 23 4)), (0, .ref (base + 48)), (1, .int (a1)), (2, .int (a2)), (3, .int (a3))]) (aX9_base 22 rfl) (by first | rfl | (simp [x_s1, x_s2, va_cat, va_ci, va_cl, va_cr, va_cn]; done) | (simp [x_s1, x_s2, va_cat, va_ci, va_cl, va_cr, va_cn]; decide)) ?_
        refine pw_aloadn (aX9_base 23 rfl) rfl ?_
        refine pw_getr (v := .ref (base + 49)) (aX9_base 24 rfl) uf_RX9_33 un_RX9_33 (congrArg (fun r => va_rf (h_rf base r)) (q48_1 (hok).2.1)) ?_
        refine pw_iloadn (aX9_base 25 rfl) rfl ?_
        refine pw_iloadn (aX9_base 26 rfl) rfl ?_
        refine pw_callV (Bs := [.int (a1), .int (a2)]) (rest := []) (aX9_base 27 rfl) um_RX9_37 ujX9_reset wc_RX9_37.2.2.2.2 (by decide) (by decide) rfl rfl (fun d => rX9_resetI hkb (a1) (a2) n sl SH FI FL FR hok) (fun v3 n3 sl3 SH3 FI3 FL3 FR3 hok3 _ => ?_)
        show pw _ _ _ _ _ _ _ 58 _ [] _ _
        refine pw_aloadn (aX9_base 28 rfl) rfl ?_
        refine pw_getr (v := .ref (base + 49)) (aX9_base 29 rfl) uf_RX9_33 un_RX9_33 (congrArg (fun r => va_rf (h_rf base r)) (q48_1 (hok3).2.1)) ?_
        refine pw_aload (aX9_base 30 rfl) rfl ?_
        refine pw_iconst (v := (0 : Int32)) (aX9_base 31 rfl) rfl ?_
        refine pw_aload (aX9_base 32 rfl) rfl ?_
        refine pw_alen hkb (o := FR 26 (FI 23 4).toInt.toNat) (aX9_base 33 rfl) (fun c5 hc5 _ => ?_)
        refine pw_iloadn (aX9_base 34 rfl) rfl ?_
        refine pw_callV (Bs := [va_rf (h_rf base (FR 26 (FI 23 4).toInt.toNat)), .int ((0 : Int32)), .int (Int32.ofNat (SH3 c5).2), .int (a3)]) (L2 := [(0, .ref (base + 49)), (1, va_rf (h_rf base (FR 26 (FI 23 4).toInt.toNat))), (2, .int ((0 : Int32))), (3, .int (Int32.ofNat (SH3 c5).2)), (4, .int (a3))]) (rest := []) (aX9_base 35 rfl) um_RX9_41 ujX9_perform wc_RX9_41.2.2.2.2 (by decide) (by decide) rfl (by first | rfl | simp [lv_args, va_cat, va_ci, va_cl, va_cr, va_cn]) (fun d => rX9_performI_ hkb (FR 26 (FI 23 4).toInt.toNat) ((0 : Int32)) (Int32.ofNat (SH3 c5).2) (a3) n3 sl3 SH3 FI3 FL3 FR3 hok3) (fun v5 n5 sl5 SH5 FI5 FL5 FR5 hok5 _ => ?_)
        show pw _ _ _ _ _ _ _ 72 _ [.int (v5)] _ _
        refine pw_istore (L2 := [(6, .int (v5)), (5, va_rf (h_rf base (FR 26 (FI 23 4).toInt.toNat))), (4, .int (FI 23 4)), (0, .ref (base + 48)), (1, .int (a1)), (2, .int (a2)), (3, .int (a3))]) (aX9_base 36 rfl) (by first | rfl | (simp [x_s1, x_s2, va_cat, va_ci, va_cl, va_cr, va_cn]; done) | (simp [x_s1, x_s2, va_cat, va_ci, va_cl, va_cr, va_cn]; decide)) ?_
        refine pw_iload (aX9_base 37 rfl) rfl ?_
        refine pw_ifne (tgt := 88) (aX9_base 38 rfl) (by decide) (fun b6 => ?_) (fun b6 => ?_)
        · skip
          refine pw_aloadn (aX9_base 39 rfl) rfl ?_
          refine pw_getr (v := .ref (base + 49)) (aX9_base 40 rfl) uf_RX9_33 un_RX9_33 (congrArg (fun r => va_rf (h_rf base r)) (q48_1 (hok5).2.1)) ?_
          refine pw_callV (Bs := []) (rest := []) (aX9_base 41 rfl) um_RX9_45 ujX9_settle wc_RX9_45.2.2.2.2 (by decide) (by decide) rfl rfl (fun d => rX9_settleI hkb  n5 sl5 SH5 FI5 FL5 FR5 hok5) (fun v7 n7 sl7 SH7 FI7 FL7 FR7 hok7 _ => ?_)
          show pw _ _ _ _ _ _ _ 86 _ [.int (v7)] _ _
          refine pw_istore (L2 := [(6, .int (v7)), (5, va_rf (h_rf base (FR 26 (FI 23 4).toInt.toNat))), (4, .int (FI 23 4)), (0, .ref (base + 48)), (1, .int (a1)), (2, .int (a2)), (3, .int (a3))]) (aX9_base 42 rfl) (by first | rfl | (simp [x_s1, x_s2, va_cat, va_ci, va_cl, va_cr, va_cn]; done) | (simp [x_s1, x_s2, va_cat, va_ci, va_cl, va_cr, va_cn]; decide)) ?_
          exact pw_Li (L2 := [(0, .ref (base + 48)), (1, .int (a1)), (2, .int (a2)), (3, .int (a3)), (4, .int (FI 23 4)), (5, va_rf (h_rf base (FR 26 (FI 23 4).toInt.toNat))), (6, .int (v7))]) [6, 5, 4, 0, 1, 2, 3] (rX9_base_88 hkb a1 a2 a3 (v7) (FI 23 4) (FR 26 (FI 23 4).toInt.toNat) n7 sl7 SH7 FI7 FL7 FR7 hok7  ) ⟨rfl, rfl, rfl, rfl, rfl, rfl, rfl, trivial⟩
        · skip
          exact pw_Li (L2 := [(0, .ref (base + 48)), (1, .int (a1)), (2, .int (a2)), (3, .int (a3)), (4, .int (FI 23 4)), (5, va_rf (h_rf base (FR 26 (FI 23 4).toInt.toNat))), (6, .int (v5))]) [6, 5, 4, 0, 1, 2, 3] (rX9_base_88 hkb a1 a2 a3 (v5) (FI 23 4) (FR 26 (FI 23 4).toInt.toNat) n5 sl5 SH5 FI5 FL5 FR5 hok5  ) ⟨rfl, rfl, rfl, rfl, rfl, rfl, rfl, trivial⟩
      · skip
        refine pw_bipush (v := (11 : Int32)) (aX9_base 15 rfl) rfl ?_
        exact pw_iret (aX9_base 16 rfl) hok
set_option maxHeartbeats 4000000 in
set_option maxRecDepth 100000 in
theorem rX9_ask {sk : xK} {base N d : Nat} (hkb : x_kb sk base) (a1 : Int32) (a2 : Int32) (n sl : Nat) (SH : Nat → Nat × Nat) (FI : Nat → Nat → Int32) (FL : Nat → Nat → Int64) (FR : Nat → Nat → Option Nat) (hok : pk n SH FR)  : pw pj_I sk base N d none 105 0 [(0, .ref (base + 48)), (1, .int (a1)), (2, .int (a2))] [] (n, sl, SH, FI, FL, FR) (RX9_ask a1 a2 n sl SH FI FL FR) := by
  unfold RX9_ask
  refine pw_iloadn (aX9_ask 0 rfl) rfl ?_
  refine pw_lsw aX9_ask_1 (fun tg ht => ?_)
  refine pw_case ((a1).toInt = 6) (fun b1 => ?_) (fun b1 => ?_)
  · have et : tg = 76 := by
      have e9 : Jvm.Op.lookupswitch.offset [(6, 75), (144, 100), (145, 114), (146, 155), (148, 86), (151, 176), (155, 203), (156, 235)] (263) (6) = 75 := (by decide); rw [b1, e9] at ht; omega
    subst et
    refine pw_aloadn (aX9_ask 1 rfl) rfl ?_
    refine pw_aloadn (aX9_ask 2 rfl) rfl ?_
    refine pw_callV (Bs := []) (rest := [.ref (base + 48)]) (aX9_ask 3 rfl) um_RX9_92 ujX9_pop wc_RX9_92.2.2.2.2 (by decide) (by decide) rfl rfl (fun d => rX9_pop hkb  n sl SH FI FL FR hok) (fun v1 n1 sl1 SH1 FI1 FL1 FR1 hok1 _ => ?_)
    show pw _ _ _ _ _ _ _ 81 _ [.long (v1), .ref (base + 48)] _ _
    refine pw_bipush (v := (8 : Int32)) (aX9_ask 4 rfl) rfl ?_
    refine pw_callV (Bs := [.long (v1), .int ((8 : Int32))]) (rest := []) (aX9_ask 5 rfl) um_RX9_205 ujX9_pushBytes wc_RX9_205.2.2.2.2 (by decide) (by decide) rfl rfl (fun d => rX9_pushBytes hkb (v1) ((8 : Int32)) n1 sl1 SH1 FI1 FL1 FR1 hok1) (fun v2 n2 sl2 SH2 FI2 FL2 FR2 hok2 _ => ?_)
    show pw _ _ _ _ _ _ _ 86 _ [.int (v2)] _ _
    exact pw_iret (aX9_ask 6 rfl) hok2
  skip
  refine pw_case ((a1).toInt = 144) (fun b4 => ?_) (fun b4 => ?_)
  · have et : tg = 101 := by
      have e9 : Jvm.Op.lookupswitch.offset [(6, 75), (144, 100), (145, 114), (146, 155), (148, 86), (151, 176), (155, 203), (156, 235)] (263) (144) = 100 := (by decide); rw [b4, e9] at ht; omega
    subst et
    refine pw_aloadn (aX9_ask 15 rfl) rfl ?_
    refine pw_getr (v := .ref (base + 71)) (aX9_ask 16 rfl) uf_RX9_18 un_RX9_18 (congrArg (fun r => va_rf (h_rf base r)) (q48_3 (hok).2.1)) ?_
    refine pw_iconst (v := (2 : Int32)) (aX9_ask 17 rfl) rfl ?_
    refine pw_aloadn (aX9_ask 18 rfl) rfl ?_
    refine pw_getr (v := .long (FL 48 12)) (aX9_ask 19 rfl) uf_RX9_96 un_RX9_96 rfl ?_
    refine pw_callV (Bs := [.int ((2 : Int32)), .long (FL 48 12)]) (rest := []) (aX9_ask 20 rfl) um_RX9_65 ujX5_become wc_RX9_65.2.2.2.2 (by decide) (by decide) rfl rfl (fun d => rX5_become hkb 71 ((2 : Int32)) (FL 48 12) n sl SH FI FL FR hok) (fun v4 n4 sl4 SH4 FI4 FL4 FR4 hok4 _ => ?_)
    show pw _ _ _ _ _ _ _ 113 _ [] _ _
    refine pw_iconst (v := (0 : Int32)) (aX9_ask 21 rfl) rfl ?_
    exact pw_iret (aX9_ask 22 rfl) hok4
  skip
  refine pw_case ((a1).toInt = 145) (fun b6 => ?_) (fun b6 => ?_)
  · have et : tg = 115 := by
      have e9 : Jvm.Op.lookupswitch.offset [(6, 75), (144, 100), (145, 114), (146, 155), (148, 86), (151, 176), (155, 203), (156, 235)] (263) (145) = 114 := (by decide); rw [b6, e9] at ht; omega
    subst et
    refine pw_aloadn (aX9_ask 23 rfl) rfl ?_
    refine pw_getr (v := .long (FL 48 12)) (aX9_ask 24 rfl) uf_RX9_96 un_RX9_96 rfl ?_
    refine pw_lstoren (L2 := [(3, .long (FL 48 12)), (0, .ref (base + 48)), (1, .int (a1)), (2, .int (a2))]) (aX9_ask 25 rfl) rfl ?_
    refine pw_aloadn (aX9_ask 26 rfl) rfl ?_
    refine pw_aloadn (aX9_ask 27 rfl) rfl ?_
    refine pw_getr (v := .int (FI 48 6)) (aX9_ask 28 rfl) uf_RX9_53 un_RX9_53 rfl ?_
    refine pw_aloadn (aX9_ask 29 rfl) rfl ?_
    refine pw_getr (v := .int (FI 48 7)) (aX9_ask 30 rfl) uf_RX9_56 un_RX9_56 rfl ?_
    refine pw_iloadn (aX9_ask 31 rfl) rfl ?_
    refine pw_callV (Bs := [.int (FI 48 6), .int (FI 48 7), .int (a2)]) (rest := []) (aX9_ask 32 rfl) um_RX9_208 ujX9_base wc_RX9_208.2.2.2.2 (by decide) (by decide) rfl rfl (fun d => rX9_base hkb (FI 48 6) (FI 48 7) (a2) n sl SH FI FL FR hok) (fun v6 n6 sl6 SH6 FI6 FL6 FR6 hok6 _ => ?_)
    show pw _ _ _ _ _ _ _ 133 _ [.int (v6)] _ _
    refine pw_istore (L2 := [(5, .int (v6)), (3, .long (FL 48 12)), (0, .ref (base + 48)), (1, .int (a1)), (2, .int (a2))]) (aX9_ask 33 rfl) rfl ?_
    refine pw_iload (aX9_ask 34 rfl) rfl ?_
    refine pw_ifne (tgt := 153) (aX9_ask 35 rfl) (by decide) (fun b7 => ?_) (fun b7 => ?_)
    · skip
      refine pw_aloadn (aX9_ask 36 rfl) rfl ?_
      refine pw_aloadn (aX9_ask 37 rfl) rfl ?_
      refine pw_getr (v := .long (FL6 48 15)) (aX9_ask 38 rfl) uf_RX9_212 un_RX9_212 rfl ?_
      refine pw_lloadn (aX9_ask 39 rfl) rfl ?_
      refine pw_ladd (aX9_ask 40 rfl) ?_
      refine pw_callV (Bs := [.long ((FL6 48 15) + (FL 48 12))]) (rest := []) (aX9_ask 41 rfl) um_RX9_158 ujX9_push wc_RX9_158.2.2.2.2 (by decide) (by decide) rfl rfl (fun d => rX9_push hkb ((FL6 48 15) + (FL 48 12)) n6 sl6 SH6 FI6 FL6 FR6 hok6) (fun v8 n8 sl8 SH8 FI8 FL8 FR8 hok8 _ => ?_)
      show pw _ _ _ _ _ _ _ 150 _ [.int (v8)] _ _
      refine pw_goto (tgt := 155) (aX9_ask 42 rfl) (by decide) ?_
      exact pw_iret (aX9_ask 44 rfl) hok8
    · skip
      refine pw_iload (aX9_ask 43 rfl) rfl ?_
      exact pw_iret (aX9_ask 44 rfl) hok6
  skip
  refine pw_case ((a1).toInt = 146) (fun b10 => ?_) (fun b10 => ?_)
  · have et : tg = 156 := by
      have e9 : Jvm.Op.lookupswitch.offset [(6, 75), (144, 100), (145, 114), (146, 155), (148, 86), (151, 176), (155, 203), (156, 235)] (263) (146) = 155 := (by decide); rw [b10, e9] at ht; omega
    subst et
    refine pw_aloadn (aX9_ask 45 rfl) rfl ?_
    refine pw_aloadn (aX9_ask 46 rfl) rfl ?_
    refine pw_getr (v := .ref (base + 23)) (aX9_ask 47 rfl) uf_RX9_29 un_RX9_29 (congrArg (fun r => va_rf (h_rf base r)) (q48_0 (hok).2.1)) ?_
    refine pw_aloadn (aX9_ask 48 rfl) rfl ?_
    refine pw_getr (v := .long (FL 48 12)) (aX9_ask 49 rfl) uf_RX9_96 un_RX9_96 rfl ?_
    refine pw_cf (pw_callV (Bs := [.long (FL 48 12)]) (rest := [.ref (base + 48)]) (aX9_ask 50 rfl) um_RX9_162 ujX1_registerValue wc_RX9_162.2.2.2.2 (by decide) (by decide) rfl rfl (fun d => rX1_registerValue hkb (FL 48 12) n sl SH FI FL FR hok) (fun v10 n10 sl10 SH10 FI10 FL10 FR10 _ hC => ?_))
    obtain ⟨rfl, hC⟩ := hC; cases hC
    show pw _ _ _ _ _ _ _ 168 _ [.long (fX1_registerValue (FL 48 12) SH FI FL FR), .ref (base + 48)] _ _
    refine pw_aloadn (aX9_ask 51 rfl) rfl ?_
    refine pw_getr (v := .long (FL 48 13)) (aX9_ask 52 rfl) uf_RX9_118 un_RX9_118 rfl ?_
    refine pw_ladd (aX9_ask 53 rfl) ?_
    refine pw_callV (Bs := [.long ((fX1_registerValue (FL 48 12) SH FI FL FR) + (FL 48 13))]) (rest := []) (aX9_ask 54 rfl) um_RX9_158 ujX9_push wc_RX9_158.2.2.2.2 (by decide) (by decide) rfl rfl (fun d => rX9_push hkb ((fX1_registerValue (FL 48 12) SH FI FL FR) + (FL 48 13)) n sl SH FI FL FR hok) (fun v11 n11 sl11 SH11 FI11 FL11 FR11 hok11 _ => ?_)
    show pw _ _ _ _ _ _ _ 176 _ [.int (v11)] _ _
    exact pw_iret (aX9_ask 55 rfl) hok11
  skip
  refine pw_case ((a1).toInt = 148) (fun b13 => ?_) (fun b13 => ?_)
  · have et : tg = 87 := by
      have e9 : Jvm.Op.lookupswitch.offset [(6, 75), (144, 100), (145, 114), (146, 155), (148, 86), (151, 176), (155, 203), (156, 235)] (263) (148) = 86 := (by decide); rw [b13, e9] at ht; omega
    subst et
    refine pw_aloadn (aX9_ask 7 rfl) rfl ?_
    refine pw_aloadn (aX9_ask 8 rfl) rfl ?_
    refine pw_callV (Bs := []) (rest := [.ref (base + 48)]) (aX9_ask 9 rfl) um_RX9_92 ujX9_pop wc_RX9_92.2.2.2.2 (by decide) (by decide) rfl rfl (fun d => rX9_pop hkb  n sl SH FI FL FR hok) (fun v13 n13 sl13 SH13 FI13 FL13 FR13 hok13 _ => ?_)
    show pw _ _ _ _ _ _ _ 92 _ [.long (v13), .ref (base + 48)] _ _
    refine pw_aloadn (aX9_ask 10 rfl) rfl ?_
    refine pw_getr (v := .long (FL13 48 12)) (aX9_ask 11 rfl) uf_RX9_96 un_RX9_96 rfl ?_
    refine pw_l2i (aX9_ask 12 rfl) ?_
    refine pw_callV (Bs := [.long (v13), .int ((FL13 48 12).toInt32)]) (rest := []) (aX9_ask 13 rfl) um_RX9_205 ujX9_pushBytes wc_RX9_205.2.2.2.2 (by decide) (by decide) rfl rfl (fun d => rX9_pushBytes hkb (v13) ((FL13 48 12).toInt32) n13 sl13 SH13 FI13 FL13 FR13 hok13) (fun v14 n14 sl14 SH14 FI14 FL14 FR14 hok14 _ => ?_)
    show pw _ _ _ _ _ _ _ 100 _ [.int (v14)] _ _
    exact pw_iret (aX9_ask 14 rfl) hok14
  skip
  refine pw_case ((a1).toInt = 151) (fun b16 => ?_) (fun b16 => ?_)
  · have et : tg = 177 := by
      have e9 : Jvm.Op.lookupswitch.offset [(6, 75), (144, 100), (145, 114), (146, 155), (148, 86), (151, 176), (155, 203), (156, 235)] (263) (151) = 176 := (by decide); rw [b16, e9] at ht; omega
    subst et
    refine pw_aloadn (aX9_ask 56 rfl) rfl ?_
    refine pw_getr (v := .ref (base + 23)) (aX9_ask 57 rfl) uf_RX9_29 un_RX9_29 (congrArg (fun r => va_rf (h_rf base r)) (q48_0 (hok).2.1)) ?_
    refine pw_getr (v := .int (FI 23 7)) (aX9_ask 58 rfl) uf_RX9_215 un_RX9_215 rfl ?_
    refine pw_ifeq (tgt := 201) (aX9_ask 59 rfl) (by decide) (fun b16 => ?_) (fun b16 => ?_)
    · skip
      refine pw_bipush (v := (11 : Int32)) (aX9_ask 66 rfl) rfl ?_
      exact pw_iret (aX9_ask 67 rfl) hok
    · skip
      refine pw_aloadn (aX9_ask 60 rfl) rfl ?_
      refine pw_aloadn (aX9_ask 61 rfl) rfl ?_
      refine pw_getr (v := .ref (base + 23)) (aX9_ask 62 rfl) uf_RX9_29 un_RX9_29 (congrArg (fun r => va_rf (h_rf base r)) (q48_0 (hok).2.1)) ?_
      refine pw_getr (v := .long (FL 23 8)) (aX9_ask 63 rfl) uf_RX9_219 un_RX9_219 rfl ?_
      refine pw_callV (Bs := [.long (FL 23 8)]) (rest := []) (aX9_ask 64 rfl) um_RX9_158 ujX9_push wc_RX9_158.2.2.2.2 (by decide) (by decide) rfl rfl (fun d => rX9_push hkb (FL 23 8) n sl SH FI FL FR hok) (fun v17 n17 sl17 SH17 FI17 FL17 FR17 hok17 _ => ?_)
      show pw _ _ _ _ _ _ _ 198 _ [.int (v17)] _ _
      refine pw_goto (tgt := 203) (aX9_ask 65 rfl) (by decide) ?_
      exact pw_iret (aX9_ask 67 rfl) hok17
  skip
  refine pw_case ((a1).toInt = 155) (fun b19 => ?_) (fun b19 => ?_)
  · have et : tg = 204 := by
      have e9 : Jvm.Op.lookupswitch.offset [(6, 75), (144, 100), (145, 114), (146, 155), (148, 86), (151, 176), (155, 203), (156, 235)] (263) (155) = 203 := (by decide); rw [b19, e9] at ht; omega
    subst et
    refine pw_aloadn (aX9_ask 68 rfl) rfl ?_
    refine pw_getr (v := .ref (base + 23)) (aX9_ask 69 rfl) uf_RX9_29 un_RX9_29 (congrArg (fun r => va_rf (h_rf base r)) (q48_0 (hok).2.1)) ?_
    refine pw_getr (v := .int (FI 23 9)) (aX9_ask 70 rfl) uf_RX9_222 un_RX9_222 rfl ?_
    refine pw_ifeq (tgt := 233) (aX9_ask 71 rfl) (by decide) (fun b19 => ?_) (fun b19 => ?_)
    · skip
      refine pw_bipush (v := (11 : Int32)) (aX9_ask 81 rfl) rfl ?_
      exact pw_iret (aX9_ask 82 rfl) hok
    · skip
      refine pw_aloadn (aX9_ask 72 rfl) rfl ?_
      refine pw_aloadn (aX9_ask 73 rfl) rfl ?_
      refine pw_getr (v := .ref (base + 23)) (aX9_ask 74 rfl) uf_RX9_29 un_RX9_29 (congrArg (fun r => va_rf (h_rf base r)) (q48_0 (hok).2.1)) ?_
      refine pw_getr (v := .long (FL 23 10)) (aX9_ask 75 rfl) uf_RX9_225 un_RX9_225 rfl ?_
      refine pw_aloadn (aX9_ask 76 rfl) rfl ?_
      refine pw_callV (Bs := []) (rest := [.long (FL 23 10), .ref (base + 48)]) (aX9_ask 77 rfl) um_RX9_92 ujX9_pop wc_RX9_92.2.2.2.2 (by decide) (by decide) rfl rfl (fun d => rX9_pop hkb  n sl SH FI FL FR hok) (fun v20 n20 sl20 SH20 FI20 FL20 FR20 hok20 _ => ?_)
      show pw _ _ _ _ _ _ _ 226 _ [.long (v20), .long (FL 23 10), .ref (base + 48)] _ _
      refine pw_ladd (aX9_ask 78 rfl) ?_
      refine pw_callV (Bs := [.long ((FL 23 10) + (v20))]) (rest := []) (aX9_ask 79 rfl) um_RX9_158 ujX9_push wc_RX9_158.2.2.2.2 (by decide) (by decide) rfl rfl (fun d => rX9_push hkb ((FL 23 10) + (v20)) n20 sl20 SH20 FI20 FL20 FR20 hok20) (fun v21 n21 sl21 SH21 FI21 FL21 FR21 hok21 _ => ?_)
      show pw _ _ _ _ _ _ _ 230 _ [.int (v21)] _ _
      refine pw_goto (tgt := 235) (aX9_ask 80 rfl) (by decide) ?_
      exact pw_iret (aX9_ask 82 rfl) hok21
  skip
  refine pw_case ((a1).toInt = 156) (fun b23 => ?_) (fun b23 => ?_)
  · have et : tg = 236 := by
      have e9 : Jvm.Op.lookupswitch.offset [(6, 75), (144, 100), (145, 114), (146, 155), (148, 86), (151, 176), (155, 203), (156, 235)] (263) (156) = 235 := (by decide); rw [b23, e9] at ht; omega
    subst et
    refine pw_aloadn (aX9_ask 83 rfl) rfl ?_
    refine pw_getr (v := .ref (base + 23)) (aX9_ask 84 rfl) uf_RX9_29 un_RX9_29 (congrArg (fun r => va_rf (h_rf base r)) (q48_0 (hok).2.1)) ?_
    refine pw_getr (v := .int (FI 23 5)) (aX9_ask 85 rfl) uf_RX9_228 un_RX9_228 rfl ?_
    refine pw_iconst (v := (-1 : Int32)) (aX9_ask 86 rfl) rfl ?_
    refine pw_icne (tgt := 252) (aX9_ask 87 rfl) (by decide) (fun b23 => ?_) (fun b23 => ?_)
    · skip
      refine pw_bipush (v := (11 : Int32)) (aX9_ask 88 rfl) rfl ?_
      refine pw_goto (tgt := 263) (aX9_ask 89 rfl) (by decide) ?_
      exact pw_iret (aX9_ask 95 rfl) hok
    · skip
      refine pw_aloadn (aX9_ask 90 rfl) rfl ?_
      refine pw_aloadn (aX9_ask 91 rfl) rfl ?_
      refine pw_getr (v := .ref (base + 23)) (aX9_ask 92 rfl) uf_RX9_29 un_RX9_29 (congrArg (fun r => va_rf (h_rf base r)) (q48_0 (hok).2.1)) ?_
      refine pw_cf (pw_callV (Bs := []) (rest := [.ref (base + 48)]) (aX9_ask 93 rfl) um_RX9_231 ujX1_cfaValue wc_RX9_231.2.2.2.2 (by decide) (by decide) rfl rfl (fun d => rX1_cfaValue hkb  n sl SH FI FL FR hok) (fun v24 n24 sl24 SH24 FI24 FL24 FR24 _ hC => ?_))
      obtain ⟨rfl, hC⟩ := hC; cases hC
      show pw _ _ _ _ _ _ _ 260 _ [.long (fX1_cfaValue  SH FI FL FR), .ref (base + 48)] _ _
      refine pw_callV (Bs := [.long (fX1_cfaValue  SH FI FL FR)]) (rest := []) (aX9_ask 94 rfl) um_RX9_158 ujX9_push wc_RX9_158.2.2.2.2 (by decide) (by decide) rfl rfl (fun d => rX9_push hkb (fX1_cfaValue  SH FI FL FR) n sl SH FI FL FR hok) (fun v25 n25 sl25 SH25 FI25 FL25 FR25 hok25 _ => ?_)
      show pw _ _ _ _ _ _ _ 263 _ [.int (v25)] _ _
      exact pw_iret (aX9_ask 95 rfl) hok25
  skip
  have et : tg = 264 := by
    simp only [Jvm.Op.lookupswitch.offset] at ht; rw [if_neg (by omega), if_neg (by omega), if_neg (by omega), if_neg (by omega), if_neg (by omega), if_neg (by omega), if_neg (by omega), if_neg (by omega)] at ht; omega
  subst et
  refine pw_iconst (v := (0 : Int32)) (aX9_ask 96 rfl) rfl ?_
  exact pw_iret (aX9_ask 97 rfl) hok
set_option maxHeartbeats 4000000 in
set_option maxRecDepth 100000 in
theorem rX9_operate_241 {sk : xK} {base N d : Nat}  (hkb : x_kb sk base) (a1 : Int32) (a2 : Option Nat) (a3 : Int32)   (n sl : Nat) (SH : Nat → Nat × Nat) (FI : Nat → Nat → Int32) (FL : Nat → Nat → Int64) (FR : Nat → Nat → Option Nat) (hok : pk n SH FR)   : pw pj_I sk base N d none 98 241 [(0, .ref (base + 48)), (1, .int (a1)), (2, va_rf (h_rf base (a2))), (3, .int (a3))] [] (n, sl, SH, FI, FL, FR) (RX9_operate_241  a1 a2 a3  n sl SH FI FL FR) := by
  unfold RX9_operate_241
  refine pw_iloadn (aX9_operate 129 rfl) rfl ?_
  refine pw_sipush (v := (147 : Int32)) (aX9_operate 130 rfl) rfl ?_
  refine pw_icne (tgt := 264) (aX9_operate 131 rfl) (by decide) (fun b0 => ?_) (fun b0 => ?_)
  · skip
    refine pw_aloadn (aX9_operate 132 rfl) rfl ?_
    refine pw_aloadn (aX9_operate 133 rfl) rfl ?_
    refine pw_getr (v := .long (FL 48 12)) (aX9_operate 134 rfl) uf_RX9_96 un_RX9_96 rfl ?_
    refine pw_l2i (aX9_operate 135 rfl) ?_
    refine pw_bipush (v := (8 : Int32)) (aX9_operate 136 rfl) rfl ?_
    refine pw_imul (aX9_operate 137 rfl) ?_
    refine pw_iconst (v := (0 : Int32)) (aX9_operate 138 rfl) rfl ?_
    refine pw_callV (Bs := [.int (((FL 48 12).toInt32) * ((8 : Int32))), .int ((0 : Int32))]) (rest := []) (aX9_operate 139 rfl) um_RX9_177 ujX9_addPiece wc_RX9_177.2.2.2.2 (by decide) (by decide) rfl rfl (fun d => rX9_addPiece hkb (((FL 48 12).toInt32) * ((8 : Int32))) ((0 : Int32)) n sl SH FI FL FR hok) (fun v1 n1 sl1 SH1 FI1 FL1 FR1 hok1 _ => ?_)
    show pw _ _ _ _ _ _ _ 261 _ [.int (v1)] _ _
    refine pw_goto (tgt := 278) (aX9_operate 140 rfl) (by decide) ?_
    exact pw_iret (aX9_operate 149 rfl) hok1
  · skip
    refine pw_aloadn (aX9_operate 141 rfl) rfl ?_
    refine pw_aloadn (aX9_operate 142 rfl) rfl ?_
    refine pw_getr (v := .long (FL 48 12)) (aX9_operate 143 rfl) uf_RX9_96 un_RX9_96 rfl ?_
    refine pw_l2i (aX9_operate 144 rfl) ?_
    refine pw_aloadn (aX9_operate 145 rfl) rfl ?_
    refine pw_getr (v := .long (FL 48 13)) (aX9_operate 146 rfl) uf_RX9_118 un_RX9_118 rfl ?_
    refine pw_l2i (aX9_operate 147 rfl) ?_
    refine pw_callV (Bs := [.int ((FL 48 12).toInt32), .int ((FL 48 13).toInt32)]) (rest := []) (aX9_operate 148 rfl) um_RX9_177 ujX9_addPiece wc_RX9_177.2.2.2.2 (by decide) (by decide) rfl rfl (fun d => rX9_addPiece hkb ((FL 48 12).toInt32) ((FL 48 13).toInt32) n sl SH FI FL FR hok) (fun v2 n2 sl2 SH2 FI2 FL2 FR2 hok2 _ => ?_)
    show pw _ _ _ _ _ _ _ 278 _ [.int (v2)] _ _
    exact pw_iret (aX9_operate 149 rfl) hok2
set_option maxHeartbeats 4000000 in
set_option maxRecDepth 100000 in
theorem rX9_operate_227 {sk : xK} {base N d : Nat}  (hkb : x_kb sk base) (a1 : Int32) (a2 : Option Nat) (a3 : Int32)   (n sl : Nat) (SH : Nat → Nat × Nat) (FI : Nat → Nat → Int32) (FL : Nat → Nat → Int64) (FR : Nat → Nat → Option Nat) (hok : pk n SH FR)   : pw pj_I sk base N d none 98 227 [(0, .ref (base + 48)), (1, .int (a1)), (2, va_rf (h_rf base (a2))), (3, .int (a3))] [] (n, sl, SH, FI, FL, FR) (RX9_operate_227  a1 a2 a3  n sl SH FI FL FR) := by
  unfold RX9_operate_227
  refine pw_iloadn (aX9_operate 123 rfl) rfl ?_
  refine pw_sipush (v := (147 : Int32)) (aX9_operate 124 rfl) rfl ?_
  refine pw_iceq (tgt := 241) (aX9_operate 125 rfl) (by decide) (fun b0 => ?_) (fun b0 => ?_)
  · skip
    exact pw_Li (L2 := [(0, .ref (base + 48)), (1, .int (a1)), (2, va_rf (h_rf base (a2))), (3, .int (a3))]) [0, 1, 2, 3] (rX9_operate_241 hkb a1 a2 a3  n sl SH FI FL FR hok  ) ⟨rfl, rfl, rfl, rfl, trivial⟩
  · skip
    refine pw_iloadn (aX9_operate 126 rfl) rfl ?_
    refine pw_sipush (v := (157 : Int32)) (aX9_operate 127 rfl) rfl ?_
    refine pw_icne (tgt := 279) (aX9_operate 128 rfl) (by decide) (fun b1 => ?_) (fun b1 => ?_)
    · skip
      exact pw_Li (L2 := [(0, .ref (base + 48)), (1, .int (a1)), (2, va_rf (h_rf base (a2))), (3, .int (a3))]) [0, 1, 2, 3] (rX9_operate_241 hkb a1 a2 a3  n sl SH FI FL FR hok  ) ⟨rfl, rfl, rfl, rfl, trivial⟩
    · skip
      refine pw_iloadn (aX9_operate 150 rfl) rfl ?_
      refine pw_sipush (v := (158 : Int32)) (aX9_operate 151 rfl) rfl ?_
      refine pw_iceq (tgt := 293) (aX9_operate 152 rfl) (by decide) (fun b2 => ?_) (fun b2 => ?_)
      · skip
        refine pw_aloadn (aX9_operate 156 rfl) rfl ?_
        refine pw_iloadn (aX9_operate 157 rfl) rfl ?_
        refine pw_aloadn (aX9_operate 158 rfl) rfl ?_
        refine pw_callV (Bs := [.int (a1), va_rf (h_rf base (a2))]) (L2 := [(0, .ref (base + 48)), (1, .int (a1)), (2, va_rf (h_rf base (a2)))]) (rest := []) (aX9_operate 159 rfl) um_RX9_181 ujX9_keep wc_RX9_181.2.2.2.2 (by decide) (by decide) rfl (by first | rfl | simp [lv_args, va_cat, va_ci, va_cl, va_cr, va_cn]) (fun d => rX9_keep hkb (a1) (a2) n sl SH FI FL FR hok) (fun v3 n3 sl3 SH3 FI3 FL3 FR3 hok3 _ => ?_)
        show pw _ _ _ _ _ _ _ 299 _ [.int (v3)] _ _
        refine pw_goto (tgt := 308) (aX9_operate 160 rfl) (by decide) ?_
        exact pw_iret (aX9_operate 165 rfl) hok3
      · skip
        refine pw_iloadn (aX9_operate 153 rfl) rfl ?_
        refine pw_sipush (v := (159 : Int32)) (aX9_operate 154 rfl) rfl ?_
        refine pw_icne (tgt := 302) (aX9_operate 155 rfl) (by decide) (fun b4 => ?_) (fun b4 => ?_)
        · skip
          refine pw_aloadn (aX9_operate 156 rfl) rfl ?_
          refine pw_iloadn (aX9_operate 157 rfl) rfl ?_
          refine pw_aloadn (aX9_operate 158 rfl) rfl ?_
          refine pw_callV (Bs := [.int (a1), va_rf (h_rf base (a2))]) (L2 := [(0, .ref (base + 48)), (1, .int (a1)), (2, va_rf (h_rf base (a2)))]) (rest := []) (aX9_operate 159 rfl) um_RX9_181 ujX9_keep wc_RX9_181.2.2.2.2 (by decide) (by decide) rfl (by first | rfl | simp [lv_args, va_cat, va_ci, va_cl, va_cr, va_cn]) (fun d => rX9_keep hkb (a1) (a2) n sl SH FI FL FR hok) (fun v5 n5 sl5 SH5 FI5 FL5 FR5 hok5 _ => ?_)
          show pw _ _ _ _ _ _ _ 299 _ [.int (v5)] _ _
          refine pw_goto (tgt := 308) (aX9_operate 160 rfl) (by decide) ?_
          exact pw_iret (aX9_operate 165 rfl) hok5
        · skip
          refine pw_aloadn (aX9_operate 161 rfl) rfl ?_
          refine pw_iloadn (aX9_operate 162 rfl) rfl ?_
          refine pw_iloadn (aX9_operate 163 rfl) rfl ?_
          refine pw_callV (Bs := [.int (a1), .int (a3)]) (rest := []) (aX9_operate 164 rfl) um_RX9_185 ujX9_ask wc_RX9_185.2.2.2.2 (by decide) (by decide) rfl rfl (fun d => rX9_ask hkb (a1) (a3) n sl SH FI FL FR hok) (fun v6 n6 sl6 SH6 FI6 FL6 FR6 hok6 _ => ?_)
          show pw _ _ _ _ _ _ _ 308 _ [.int (v6)] _ _
          exact pw_iret (aX9_operate 165 rfl) hok6
set_option maxHeartbeats 4000000 in
set_option maxRecDepth 100000 in
theorem rX9_operate_202 {sk : xK} {base N d : Nat}  (hkb : x_kb sk base) (a1 : Int32) (a2 : Option Nat) (a3 : Int32) (l4l : Int64) (l6l : Int64)  (n sl : Nat) (SH : Nat → Nat × Nat) (FI : Nat → Nat → Int32) (FL : Nat → Nat → Int64) (FR : Nat → Nat → Option Nat) (hok : pk n SH FR)   : pw pj_I sk base N d none 98 202 [(0, .ref (base + 48)), (1, .int (a1)), (2, va_rf (h_rf base (a2))), (3, .int (a3)), (4, .long (l4l)), (6, .long (l6l))] [] (n, sl, SH, FI, FL, FR) (RX9_operate_202  a1 a2 a3 l4l l6l n sl SH FI FL FR) := by
  unfold RX9_operate_202
  refine pw_lload (aX9_operate 110 rfl) rfl ?_
  refine pw_lconst (v := (0 : Int64)) (aX9_operate 111 rfl) rfl ?_
  refine pw_lcne (tgt := 214) (aX9_operate 112 rfl) (aX9_operate 113 rfl) (by decide) (fun b0 => ?_) (fun b0 => ?_)
  · skip
    refine pw_bipush (v := (6 : Int32)) (aX9_operate 114 rfl) rfl ?_
    refine pw_goto (tgt := 226) (aX9_operate 115 rfl) (by decide) ?_
    exact pw_iret (aX9_operate 122 rfl) hok
  · skip
    refine pw_aloadn (aX9_operate 116 rfl) rfl ?_
    refine pw_iloadn (aX9_operate 117 rfl) rfl ?_
    refine pw_lload (aX9_operate 118 rfl) rfl ?_
    refine pw_lload (aX9_operate 119 rfl) rfl ?_
    refine pw_cf (pw_callS (As := [.int (a1), .long (l6l), .long (l4l)]) (rest := [.ref (base + 48)]) (aX9_operate 120 rfl) um_RX9_173 ujX9_joined wc_RX9_173.2.2.2.2 (by decide) rfl rfl (fun d => rX9_joined hkb (a1) (l6l) (l4l) n sl SH FI FL FR hok) (fun v1 n1 sl1 SH1 FI1 FL1 FR1 _ hC => ?_))
    obtain ⟨rfl, hC⟩ := hC; cases hC
    show pw _ _ _ _ _ _ _ 223 _ [.long (fX9_joined (a1) (l6l) (l4l) SH FI FL FR), .ref (base + 48)] _ _
    refine pw_callV (Bs := [.long (fX9_joined (a1) (l6l) (l4l) SH FI FL FR)]) (rest := []) (aX9_operate 121 rfl) um_RX9_158 ujX9_push wc_RX9_158.2.2.2.2 (by decide) (by decide) rfl rfl (fun d => rX9_push hkb (fX9_joined (a1) (l6l) (l4l) SH FI FL FR) n sl SH FI FL FR hok) (fun v2 n2 sl2 SH2 FI2 FL2 FR2 hok2 _ => ?_)
    show pw _ _ _ _ _ _ _ 226 _ [.int (v2)] _ _
    exact pw_iret (aX9_operate 122 rfl) hok2
set_option maxHeartbeats 4000000 in
set_option maxRecDepth 100000 in
theorem rX9_operate_128 {sk : xK} {base N d : Nat}  (hkb : x_kb sk base) (a1 : Int32) (a2 : Option Nat) (a3 : Int32)   (n sl : Nat) (SH : Nat → Nat × Nat) (FI : Nat → Nat → Int32) (FL : Nat → Nat → Int64) (FR : Nat → Nat → Option Nat) (hok : pk n SH FR)   : pw pj_I sk base N d none 98 128 [(0, .ref (base + 48)), (1, .int (a1)), (2, va_rf (h_rf base (a2))), (3, .int (a3))] [] (n, sl, SH, FI, FL, FR) (RX9_operate_128  a1 a2 a3  n sl SH FI FL FR) := by
  unfold RX9_operate_128
  refine pw_iloadn (aX9_operate 72 rfl) rfl ?_
  refine pw_bipush (v := (25 : Int32)) (aX9_operate 73 rfl) rfl ?_
  refine pw_iceq (tgt := 152) (aX9_operate 74 rfl) (by decide) (fun b0 => ?_) (fun b0 => ?_)
  · skip
    refine pw_aloadn (aX9_operate 84 rfl) rfl ?_
    refine pw_aloadn (aX9_operate 85 rfl) rfl ?_
    refine pw_iloadn (aX9_operate 86 rfl) rfl ?_
    refine pw_aloadn (aX9_operate 87 rfl) rfl ?_
    refine pw_callV (Bs := []) (rest := [.int (a1), .ref (base + 48), .ref (base + 48)]) (aX9_operate 88 rfl) um_RX9_92 ujX9_pop wc_RX9_92.2.2.2.2 (by decide) (by decide) rfl rfl (fun d => rX9_pop hkb  n sl SH FI FL FR hok) (fun v1 n1 sl1 SH1 FI1 FL1 FR1 hok1 _ => ?_)
    show pw _ _ _ _ _ _ _ 159 _ [.long (v1), .int (a1), .ref (base + 48), .ref (base + 48)] _ _
    refine pw_cf (pw_callV (Bs := [.int (a1), .long (v1)]) (rest := [.ref (base + 48)]) (aX9_operate 89 rfl) um_RX9_169 ujX9_changed wc_RX9_169.2.2.2.2 (by decide) (by decide) rfl rfl (fun d => rX9_changed hkb (a1) (v1) n1 sl1 SH1 FI1 FL1 FR1 hok1) (fun v2 n2 sl2 SH2 FI2 FL2 FR2 _ hC => ?_))
    obtain ⟨rfl, hC⟩ := hC; cases hC
    show pw _ _ _ _ _ _ _ 162 _ [.long (fX9_changed (a1) (v1) SH1 FI1 FL1 FR1), .ref (base + 48)] _ _
    refine pw_callV (Bs := [.long (fX9_changed (a1) (v1) SH1 FI1 FL1 FR1)]) (rest := []) (aX9_operate 90 rfl) um_RX9_158 ujX9_push wc_RX9_158.2.2.2.2 (by decide) (by decide) rfl rfl (fun d => rX9_push hkb (fX9_changed (a1) (v1) SH1 FI1 FL1 FR1) n1 sl1 SH1 FI1 FL1 FR1 hok1) (fun v3 n3 sl3 SH3 FI3 FL3 FR3 hok3 _ => ?_)
    show pw _ _ _ _ _ _ _ 165 _ [.int (v3)] _ _
    exact pw_iret (aX9_operate 91 rfl) hok3
  · skip
    refine pw_iloadn (aX9_operate 75 rfl) rfl ?_
    refine pw_bipush (v := (31 : Int32)) (aX9_operate 76 rfl) rfl ?_
    refine pw_iceq (tgt := 152) (aX9_operate 77 rfl) (by decide) (fun b4 => ?_) (fun b4 => ?_)
    · skip
      refine pw_aloadn (aX9_operate 84 rfl) rfl ?_
      refine pw_aloadn (aX9_operate 85 rfl) rfl ?_
      refine pw_iloadn (aX9_operate 86 rfl) rfl ?_
      refine pw_aloadn (aX9_operate 87 rfl) rfl ?_
      refine pw_callV (Bs := []) (rest := [.int (a1), .ref (base + 48), .ref (base + 48)]) (aX9_operate 88 rfl) um_RX9_92 ujX9_pop wc_RX9_92.2.2.2.2 (by decide) (by decide) rfl rfl (fun d => rX9_pop hkb  n sl SH FI FL FR hok) (fun v5 n5 sl5 SH5 FI5 FL5 FR5 hok5 _ => ?_)
      show pw _ _ _ _ _ _ _ 159 _ [.long (v5), .int (a1), .ref (base + 48), .ref (base + 48)] _ _
      refine pw_cf (pw_callV (Bs := [.int (a1), .long (v5)]) (rest := [.ref (base + 48)]) (aX9_operate 89 rfl) um_RX9_169 ujX9_changed wc_RX9_169.2.2.2.2 (by decide) (by decide) rfl rfl (fun d => rX9_changed hkb (a1) (v5) n5 sl5 SH5 FI5 FL5 FR5 hok5) (fun v6 n6 sl6 SH6 FI6 FL6 FR6 _ hC => ?_))
      obtain ⟨rfl, hC⟩ := hC; cases hC
      show pw _ _ _ _ _ _ _ 162 _ [.long (fX9_changed (a1) (v5) SH5 FI5 FL5 FR5), .ref (base + 48)] _ _
      refine pw_callV (Bs := [.long (fX9_changed (a1) (v5) SH5 FI5 FL5 FR5)]) (rest := []) (aX9_operate 90 rfl) um_RX9_158 ujX9_push wc_RX9_158.2.2.2.2 (by decide) (by decide) rfl rfl (fun d => rX9_push hkb (fX9_changed (a1) (v5) SH5 FI5 FL5 FR5) n5 sl5 SH5 FI5 FL5 FR5 hok5) (fun v7 n7 sl7 SH7 FI7 FL7 FR7 hok7 _ => ?_)
      show pw _ _ _ _ _ _ _ 165 _ [.int (v7)] _ _
      exact pw_iret (aX9_operate 91 rfl) hok7
    · skip
      refine pw_iloadn (aX9_operate 78 rfl) rfl ?_
      refine pw_bipush (v := (32 : Int32)) (aX9_operate 79 rfl) rfl ?_
      refine pw_iceq (tgt := 152) (aX9_operate 80 rfl) (by decide) (fun b8 => ?_) (fun b8 => ?_)
      · skip
        refine pw_aloadn (aX9_operate 84 rfl) rfl ?_
        refine pw_aloadn (aX9_operate 85 rfl) rfl ?_
        refine pw_iloadn (aX9_operate 86 rfl) rfl ?_
        refine pw_aloadn (aX9_operate 87 rfl) rfl ?_
        refine pw_callV (Bs := []) (rest := [.int (a1), .ref (base + 48), .ref (base + 48)]) (aX9_operate 88 rfl) um_RX9_92 ujX9_pop wc_RX9_92.2.2.2.2 (by decide) (by decide) rfl rfl (fun d => rX9_pop hkb  n sl SH FI FL FR hok) (fun v9 n9 sl9 SH9 FI9 FL9 FR9 hok9 _ => ?_)
        show pw _ _ _ _ _ _ _ 159 _ [.long (v9), .int (a1), .ref (base + 48), .ref (base + 48)] _ _
        refine pw_cf (pw_callV (Bs := [.int (a1), .long (v9)]) (rest := [.ref (base + 48)]) (aX9_operate 89 rfl) um_RX9_169 ujX9_changed wc_RX9_169.2.2.2.2 (by decide) (by decide) rfl rfl (fun d => rX9_changed hkb (a1) (v9) n9 sl9 SH9 FI9 FL9 FR9 hok9) (fun v10 n10 sl10 SH10 FI10 FL10 FR10 _ hC => ?_))
        obtain ⟨rfl, hC⟩ := hC; cases hC
        show pw _ _ _ _ _ _ _ 162 _ [.long (fX9_changed (a1) (v9) SH9 FI9 FL9 FR9), .ref (base + 48)] _ _
        refine pw_callV (Bs := [.long (fX9_changed (a1) (v9) SH9 FI9 FL9 FR9)]) (rest := []) (aX9_operate 90 rfl) um_RX9_158 ujX9_push wc_RX9_158.2.2.2.2 (by decide) (by decide) rfl rfl (fun d => rX9_push hkb (fX9_changed (a1) (v9) SH9 FI9 FL9 FR9) n9 sl9 SH9 FI9 FL9 FR9 hok9) (fun v11 n11 sl11 SH11 FI11 FL11 FR11 hok11 _ => ?_)
        show pw _ _ _ _ _ _ _ 165 _ [.int (v11)] _ _
        exact pw_iret (aX9_operate 91 rfl) hok11
      · skip
        refine pw_iloadn (aX9_operate 81 rfl) rfl ?_
        refine pw_bipush (v := (35 : Int32)) (aX9_operate 82 rfl) rfl ?_
        refine pw_icne (tgt := 166) (aX9_operate 83 rfl) (by decide) (fun b12 => ?_) (fun b12 => ?_)
        · skip
          refine pw_aloadn (aX9_operate 84 rfl) rfl ?_
          refine pw_aloadn (aX9_operate 85 rfl) rfl ?_
          refine pw_iloadn (aX9_operate 86 rfl) rfl ?_
          refine pw_aloadn (aX9_operate 87 rfl) rfl ?_
          refine pw_callV (Bs := []) (rest := [.int (a1), .ref (base + 48), .ref (base + 48)]) (aX9_operate 88 rfl) um_RX9_92 ujX9_pop wc_RX9_92.2.2.2.2 (by decide) (by decide) rfl rfl (fun d => rX9_pop hkb  n sl SH FI FL FR hok) (fun v13 n13 sl13 SH13 FI13 FL13 FR13 hok13 _ => ?_)
          show pw _ _ _ _ _ _ _ 159 _ [.long (v13), .int (a1), .ref (base + 48), .ref (base + 48)] _ _
          refine pw_cf (pw_callV (Bs := [.int (a1), .long (v13)]) (rest := [.ref (base + 48)]) (aX9_operate 89 rfl) um_RX9_169 ujX9_changed wc_RX9_169.2.2.2.2 (by decide) (by decide) rfl rfl (fun d => rX9_changed hkb (a1) (v13) n13 sl13 SH13 FI13 FL13 FR13 hok13) (fun v14 n14 sl14 SH14 FI14 FL14 FR14 _ hC => ?_))
          obtain ⟨rfl, hC⟩ := hC; cases hC
          show pw _ _ _ _ _ _ _ 162 _ [.long (fX9_changed (a1) (v13) SH13 FI13 FL13 FR13), .ref (base + 48)] _ _
          refine pw_callV (Bs := [.long (fX9_changed (a1) (v13) SH13 FI13 FL13 FR13)]) (rest := []) (aX9_operate 90 rfl) um_RX9_158 ujX9_push wc_RX9_158.2.2.2.2 (by decide) (by decide) rfl rfl (fun d => rX9_push hkb (fX9_changed (a1) (v13) SH13 FI13 FL13 FR13) n13 sl13 SH13 FI13 FL13 FR13 hok13) (fun v15 n15 sl15 SH15 FI15 FL15 FR15 hok15 _ => ?_)
          show pw _ _ _ _ _ _ _ 165 _ [.int (v15)] _ _
          exact pw_iret (aX9_operate 91 rfl) hok15
        · skip
          refine pw_iloadn (aX9_operate 92 rfl) rfl ?_
          refine pw_bipush (v := (26 : Int32)) (aX9_operate 93 rfl) rfl ?_
          refine pw_iclt (tgt := 227) (aX9_operate 94 rfl) (by decide) (fun b16 => ?_) (fun b16 => ?_)
          · skip
            exact pw_Li (L2 := [(0, .ref (base + 48)), (1, .int (a1)), (2, va_rf (h_rf base (a2))), (3, .int (a3))]) [0, 1, 2, 3] (rX9_operate_227 hkb a1 a2 a3  n sl SH FI FL FR hok  ) ⟨rfl, rfl, rfl, rfl, trivial⟩
          · skip
            refine pw_iloadn (aX9_operate 95 rfl) rfl ?_
            refine pw_bipush (v := (46 : Int32)) (aX9_operate 96 rfl) rfl ?_
            refine pw_icgt (tgt := 227) (aX9_operate 97 rfl) (by decide) (fun b17 => ?_) (fun b17 => ?_)
            · skip
              exact pw_Li (L2 := [(0, .ref (base + 48)), (1, .int (a1)), (2, va_rf (h_rf base (a2))), (3, .int (a3))]) [0, 1, 2, 3] (rX9_operate_227 hkb a1 a2 a3  n sl SH FI FL FR hok  ) ⟨rfl, rfl, rfl, rfl, trivial⟩
            · skip
              refine pw_aloadn (aX9_operate 98 rfl) rfl ?_
              refine pw_callV (Bs := []) (rest := []) (aX9_operate 99 rfl) um_RX9_92 ujX9_pop wc_RX9_92.2.2.2.2 (by decide) (by decide) rfl rfl (fun d => rX9_pop hkb  n sl SH FI FL FR hok) (fun v18 n18 sl18 SH18 FI18 FL18 FR18 hok18 _ => ?_)
              show pw _ _ _ _ _ _ _ 182 _ [.long (v18)] _ _
              refine pw_lstore (L2 := [(4, .long (v18)), (0, .ref (base + 48)), (1, .int (a1)), (2, va_rf (h_rf base (a2))), (3, .int (a3))]) (aX9_operate 100 rfl) (by first | rfl | (simp [x_s1, x_s2, va_cat, va_ci, va_cl, va_cr, va_cn]; done) | (simp [x_s1, x_s2, va_cat, va_ci, va_cl, va_cr, va_cn]; decide)) ?_
              refine pw_aloadn (aX9_operate 101 rfl) rfl ?_
              refine pw_callV (Bs := []) (rest := []) (aX9_operate 102 rfl) um_RX9_92 ujX9_pop wc_RX9_92.2.2.2.2 (by decide) (by decide) rfl rfl (fun d => rX9_pop hkb  n18 sl18 SH18 FI18 FL18 FR18 hok18) (fun v19 n19 sl19 SH19 FI19 FL19 FR19 hok19 _ => ?_)
              show pw _ _ _ _ _ _ _ 188 _ [.long (v19)] _ _
              refine pw_lstore (L2 := [(6, .long (v19)), (4, .long (v18)), (0, .ref (base + 48)), (1, .int (a1)), (2, va_rf (h_rf base (a2))), (3, .int (a3))]) (aX9_operate 103 rfl) (by first | rfl | (simp [x_s1, x_s2, va_cat, va_ci, va_cl, va_cr, va_cn]; done) | (simp [x_s1, x_s2, va_cat, va_ci, va_cl, va_cr, va_cn]; decide)) ?_
              refine pw_iloadn (aX9_operate 104 rfl) rfl ?_
              refine pw_bipush (v := (27 : Int32)) (aX9_operate 105 rfl) rfl ?_
              refine pw_iceq (tgt := 202) (aX9_operate 106 rfl) (by decide) (fun b20 => ?_) (fun b20 => ?_)
              · skip
                exact pw_Li (L2 := [(0, .ref (base + 48)), (1, .int (a1)), (2, va_rf (h_rf base (a2))), (3, .int (a3)), (4, .long (v18)), (6, .long (v19))]) [5, 4, 0, 1, 2, 3] (rX9_operate_202 hkb a1 a2 a3 (v18) (v19) n19 sl19 SH19 FI19 FL19 FR19 hok19  ) ⟨rfl, rfl, rfl, rfl, rfl, rfl, trivial⟩
              · skip
                refine pw_iloadn (aX9_operate 107 rfl) rfl ?_
                refine pw_bipush (v := (29 : Int32)) (aX9_operate 108 rfl) rfl ?_
                refine pw_icne (tgt := 214) (aX9_operate 109 rfl) (by decide) (fun b21 => ?_) (fun b21 => ?_)
                · skip
                  exact pw_Li (L2 := [(0, .ref (base + 48)), (1, .int (a1)), (2, va_rf (h_rf base (a2))), (3, .int (a3)), (4, .long (v18)), (6, .long (v19))]) [5, 4, 0, 1, 2, 3] (rX9_operate_202 hkb a1 a2 a3 (v18) (v19) n19 sl19 SH19 FI19 FL19 FR19 hok19  ) ⟨rfl, rfl, rfl, rfl, rfl, rfl, trivial⟩
                · skip
                  refine pw_aloadn (aX9_operate 116 rfl) rfl ?_
                  refine pw_iloadn (aX9_operate 117 rfl) rfl ?_
                  refine pw_lload (aX9_operate 118 rfl) rfl ?_
                  refine pw_lload (aX9_operate 119 rfl) rfl ?_
                  refine pw_cf (pw_callS (As := [.int (a1), .long (v19), .long (v18)]) (rest := [.ref (base + 48)]) (aX9_operate 120 rfl) um_RX9_173 ujX9_joined wc_RX9_173.2.2.2.2 (by decide) rfl rfl (fun d => rX9_joined hkb (a1) (v19) (v18) n19 sl19 SH19 FI19 FL19 FR19 hok19) (fun v22 n22 sl22 SH22 FI22 FL22 FR22 _ hC => ?_))
                  obtain ⟨rfl, hC⟩ := hC; cases hC
                  show pw _ _ _ _ _ _ _ 223 _ [.long (fX9_joined (a1) (v19) (v18) SH19 FI19 FL19 FR19), .ref (base + 48)] _ _
                  refine pw_callV (Bs := [.long (fX9_joined (a1) (v19) (v18) SH19 FI19 FL19 FR19)]) (rest := []) (aX9_operate 121 rfl) um_RX9_158 ujX9_push wc_RX9_158.2.2.2.2 (by decide) (by decide) rfl rfl (fun d => rX9_push hkb (fX9_joined (a1) (v19) (v18) SH19 FI19 FL19 FR19) n19 sl19 SH19 FI19 FL19 FR19 hok19) (fun v23 n23 sl23 SH23 FI23 FL23 FR23 hok23 _ => ?_)
                  show pw _ _ _ _ _ _ _ 226 _ [.int (v23)] _ _
                  exact pw_iret (aX9_operate 122 rfl) hok23
set_option maxHeartbeats 4000000 in
set_option maxRecDepth 100000 in
theorem rX9_operate_110 {sk : xK} {base N d : Nat}  (hkb : x_kb sk base) (a1 : Int32) (a2 : Option Nat) (a3 : Int32)   (n sl : Nat) (SH : Nat → Nat × Nat) (FI : Nat → Nat → Int32) (FL : Nat → Nat → Int64) (FR : Nat → Nat → Option Nat) (hok : pk n SH FR)   : pw pj_I sk base N d none 98 110 [(0, .ref (base + 48)), (1, .int (a1)), (2, va_rf (h_rf base (a2))), (3, .int (a3))] [] (n, sl, SH, FI, FL, FR) (RX9_operate_110  a1 a2 a3  n sl SH FI FL FR) := by
  unfold RX9_operate_110
  refine pw_iloadn (aX9_operate 62 rfl) rfl ?_
  refine pw_bipush (v := (18 : Int32)) (aX9_operate 63 rfl) rfl ?_
  refine pw_iclt (tgt := 128) (aX9_operate 64 rfl) (by decide) (fun b0 => ?_) (fun b0 => ?_)
  · skip
    exact pw_Li (L2 := [(0, .ref (base + 48)), (1, .int (a1)), (2, va_rf (h_rf base (a2))), (3, .int (a3))]) [0, 1, 2, 3] (rX9_operate_128 hkb a1 a2 a3  n sl SH FI FL FR hok  ) ⟨rfl, rfl, rfl, rfl, trivial⟩
  · skip
    refine pw_iloadn (aX9_operate 65 rfl) rfl ?_
    refine pw_bipush (v := (23 : Int32)) (aX9_operate 66 rfl) rfl ?_
    refine pw_icgt (tgt := 128) (aX9_operate 67 rfl) (by decide) (fun b1 => ?_) (fun b1 => ?_)
    · skip
      exact pw_Li (L2 := [(0, .ref (base + 48)), (1, .int (a1)), (2, va_rf (h_rf base (a2))), (3, .int (a3))]) [0, 1, 2, 3] (rX9_operate_128 hkb a1 a2 a3  n sl SH FI FL FR hok  ) ⟨rfl, rfl, rfl, rfl, trivial⟩
    · skip
      refine pw_aloadn (aX9_operate 68 rfl) rfl ?_
      refine pw_iloadn (aX9_operate 69 rfl) rfl ?_
      refine pw_callV (Bs := [.int (a1)]) (rest := []) (aX9_operate 70 rfl) um_RX9_166 ujX9_shuffle wc_RX9_166.2.2.2.2 (by decide) (by decide) rfl rfl (fun d => rX9_shuffle hkb (a1) n sl SH FI FL FR hok) (fun v2 n2 sl2 SH2 FI2 FL2 FR2 hok2 _ => ?_)
      show pw _ _ _ _ _ _ _ 127 _ [.int (v2)] _ _
      exact pw_iret (aX9_operate 71 rfl) hok2
set_option maxHeartbeats 4000000 in
set_option maxRecDepth 100000 in
theorem rX9_operate_84 {sk : xK} {base N d : Nat}  (hkb : x_kb sk base) (a1 : Int32) (a2 : Option Nat) (a3 : Int32)   (n sl : Nat) (SH : Nat → Nat × Nat) (FI : Nat → Nat → Int32) (FL : Nat → Nat → Int64) (FR : Nat → Nat → Option Nat) (hok : pk n SH FR)   : pw pj_I sk base N d none 98 84 [(0, .ref (base + 48)), (1, .int (a1)), (2, va_rf (h_rf base (a2))), (3, .int (a3))] [] (n, sl, SH, FI, FL, FR) (RX9_operate_84  a1 a2 a3  n sl SH FI FL FR) := by
  unfold RX9_operate_84
  refine pw_iloadn (aX9_operate 48 rfl) rfl ?_
  refine pw_iconst (v := (3 : Int32)) (aX9_operate 49 rfl) rfl ?_
  refine pw_iceq (tgt := 101) (aX9_operate 50 rfl) (by decide) (fun b0 => ?_) (fun b0 => ?_)
  · skip
    refine pw_aloadn (aX9_operate 57 rfl) rfl ?_
    refine pw_aloadn (aX9_operate 58 rfl) rfl ?_
    refine pw_getr (v := .long (FL 48 12)) (aX9_operate 59 rfl) uf_RX9_96 un_RX9_96 rfl ?_
    refine pw_callV (Bs := [.long (FL 48 12)]) (rest := []) (aX9_operate 60 rfl) um_RX9_158 ujX9_push wc_RX9_158.2.2.2.2 (by decide) (by decide) rfl rfl (fun d => rX9_push hkb (FL 48 12) n sl SH FI FL FR hok) (fun v1 n1 sl1 SH1 FI1 FL1 FR1 hok1 _ => ?_)
    show pw _ _ _ _ _ _ _ 109 _ [.int (v1)] _ _
    exact pw_iret (aX9_operate 61 rfl) hok1
  · skip
    refine pw_iloadn (aX9_operate 51 rfl) rfl ?_
    refine pw_bipush (v := (8 : Int32)) (aX9_operate 52 rfl) rfl ?_
    refine pw_iclt (tgt := 110) (aX9_operate 53 rfl) (by decide) (fun b2 => ?_) (fun b2 => ?_)
    · skip
      exact pw_Li (L2 := [(0, .ref (base + 48)), (1, .int (a1)), (2, va_rf (h_rf base (a2))), (3, .int (a3))]) [0, 1, 2, 3] (rX9_operate_110 hkb a1 a2 a3  n sl SH FI FL FR hok  ) ⟨rfl, rfl, rfl, rfl, trivial⟩
    · skip
      refine pw_iloadn (aX9_operate 54 rfl) rfl ?_
      refine pw_bipush (v := (17 : Int32)) (aX9_operate 55 rfl) rfl ?_
      refine pw_icgt (tgt := 110) (aX9_operate 56 rfl) (by decide) (fun b3 => ?_) (fun b3 => ?_)
      · skip
        exact pw_Li (L2 := [(0, .ref (base + 48)), (1, .int (a1)), (2, va_rf (h_rf base (a2))), (3, .int (a3))]) [0, 1, 2, 3] (rX9_operate_110 hkb a1 a2 a3  n sl SH FI FL FR hok  ) ⟨rfl, rfl, rfl, rfl, trivial⟩
      · skip
        refine pw_aloadn (aX9_operate 57 rfl) rfl ?_
        refine pw_aloadn (aX9_operate 58 rfl) rfl ?_
        refine pw_getr (v := .long (FL 48 12)) (aX9_operate 59 rfl) uf_RX9_96 un_RX9_96 rfl ?_
        refine pw_callV (Bs := [.long (FL 48 12)]) (rest := []) (aX9_operate 60 rfl) um_RX9_158 ujX9_push wc_RX9_158.2.2.2.2 (by decide) (by decide) rfl rfl (fun d => rX9_push hkb (FL 48 12) n sl SH FI FL FR hok) (fun v4 n4 sl4 SH4 FI4 FL4 FR4 hok4 _ => ?_)
        show pw _ _ _ _ _ _ _ 109 _ [.int (v4)] _ _
        exact pw_iret (aX9_operate 61 rfl) hok4
set_option maxHeartbeats 4000000 in
set_option maxRecDepth 100000 in
theorem rX9_operate_49 {sk : xK} {base N d : Nat}  (hkb : x_kb sk base) (a1 : Int32) (a2 : Option Nat) (a3 : Int32)   (n sl : Nat) (SH : Nat → Nat × Nat) (FI : Nat → Nat → Int32) (FL : Nat → Nat → Int64) (FR : Nat → Nat → Option Nat) (hok : pk n SH FR)   : pw pj_I sk base N d none 98 49 [(0, .ref (base + 48)), (1, .int (a1)), (2, va_rf (h_rf base (a2))), (3, .int (a3))] [] (n, sl, SH, FI, FL, FR) (RX9_operate_49  a1 a2 a3  n sl SH FI FL FR) := by
  unfold RX9_operate_49
  refine pw_iloadn (aX9_operate 29 rfl) rfl ?_
  refine pw_bipush (v := (112 : Int32)) (aX9_operate 30 rfl) rfl ?_
  refine pw_iclt (tgt := 84) (aX9_operate 31 rfl) (by decide) (fun b0 => ?_) (fun b0 => ?_)
  · skip
    exact pw_Li (L2 := [(0, .ref (base + 48)), (1, .int (a1)), (2, va_rf (h_rf base (a2))), (3, .int (a3))]) [0, 1, 2, 3] (rX9_operate_84 hkb a1 a2 a3  n sl SH FI FL FR hok  ) ⟨rfl, rfl, rfl, rfl, trivial⟩
  · skip
    refine pw_iloadn (aX9_operate 32 rfl) rfl ?_
    refine pw_sipush (v := (143 : Int32)) (aX9_operate 33 rfl) rfl ?_
    refine pw_icgt (tgt := 84) (aX9_operate 34 rfl) (by decide) (fun b1 => ?_) (fun b1 => ?_)
    · skip
      exact pw_Li (L2 := [(0, .ref (base + 48)), (1, .int (a1)), (2, va_rf (h_rf base (a2))), (3, .int (a3))]) [0, 1, 2, 3] (rX9_operate_84 hkb a1 a2 a3  n sl SH FI FL FR hok  ) ⟨rfl, rfl, rfl, rfl, trivial⟩
    · skip
      refine pw_aloadn (aX9_operate 35 rfl) rfl ?_
      refine pw_aloadn (aX9_operate 36 rfl) rfl ?_
      refine pw_getr (v := .ref (base + 23)) (aX9_operate 37 rfl) uf_RX9_29 un_RX9_29 (congrArg (fun r => va_rf (h_rf base r)) (q48_0 (hok).2.1)) ?_
      refine pw_iloadn (aX9_operate 38 rfl) rfl ?_
      refine pw_bipush (v := (112 : Int32)) (aX9_operate 39 rfl) rfl ?_
      refine pw_isub (aX9_operate 40 rfl) ?_
      refine pw_i2l (aX9_operate 41 rfl) ?_
      refine pw_cf (pw_callV (Bs := [.long (((a1) - ((112 : Int32))).toInt64)]) (rest := [.ref (base + 48)]) (aX9_operate 42 rfl) um_RX9_162 ujX1_registerValue wc_RX9_162.2.2.2.2 (by decide) (by decide) rfl rfl (fun d => rX1_registerValue hkb (((a1) - ((112 : Int32))).toInt64) n sl SH FI FL FR hok) (fun v2 n2 sl2 SH2 FI2 FL2 FR2 _ hC => ?_))
      obtain ⟨rfl, hC⟩ := hC; cases hC
      show pw _ _ _ _ _ _ _ 75 _ [.long (fX1_registerValue (((a1) - ((112 : Int32))).toInt64) SH FI FL FR), .ref (base + 48)] _ _
      refine pw_aloadn (aX9_operate 43 rfl) rfl ?_
      refine pw_getr (v := .long (FL 48 12)) (aX9_operate 44 rfl) uf_RX9_96 un_RX9_96 rfl ?_
      refine pw_ladd (aX9_operate 45 rfl) ?_
      refine pw_callV (Bs := [.long ((fX1_registerValue (((a1) - ((112 : Int32))).toInt64) SH FI FL FR) + (FL 48 12))]) (rest := []) (aX9_operate 46 rfl) um_RX9_158 ujX9_push wc_RX9_158.2.2.2.2 (by decide) (by decide) rfl rfl (fun d => rX9_push hkb ((fX1_registerValue (((a1) - ((112 : Int32))).toInt64) SH FI FL FR) + (FL 48 12)) n sl SH FI FL FR hok) (fun v3 n3 sl3 SH3 FI3 FL3 FR3 hok3 _ => ?_)
      show pw _ _ _ _ _ _ _ 83 _ [.int (v3)] _ _
      exact pw_iret (aX9_operate 47 rfl) hok3
set_option maxHeartbeats 4000000 in
set_option maxRecDepth 100000 in
theorem rX9_operate_22 {sk : xK} {base N d : Nat}  (hkb : x_kb sk base) (a1 : Int32) (a2 : Option Nat) (a3 : Int32)   (n sl : Nat) (SH : Nat → Nat × Nat) (FI : Nat → Nat → Int32) (FL : Nat → Nat → Int64) (FR : Nat → Nat → Option Nat) (hok : pk n SH FR)   : pw pj_I sk base N d none 98 22 [(0, .ref (base + 48)), (1, .int (a1)), (2, va_rf (h_rf base (a2))), (3, .int (a3))] [] (n, sl, SH, FI, FL, FR) (RX9_operate_22  a1 a2 a3  n sl SH FI FL FR) := by
  unfold RX9_operate_22
  refine pw_iloadn (aX9_operate 13 rfl) rfl ?_
  refine pw_bipush (v := (80 : Int32)) (aX9_operate 14 rfl) rfl ?_
  refine pw_iclt (tgt := 49) (aX9_operate 15 rfl) (by decide) (fun b0 => ?_) (fun b0 => ?_)
  · skip
    exact pw_Li (L2 := [(0, .ref (base + 48)), (1, .int (a1)), (2, va_rf (h_rf base (a2))), (3, .int (a3))]) [0, 1, 2, 3] (rX9_operate_49 hkb a1 a2 a3  n sl SH FI FL FR hok  ) ⟨rfl, rfl, rfl, rfl, trivial⟩
  · skip
    refine pw_iloadn (aX9_operate 16 rfl) rfl ?_
    refine pw_bipush (v := (111 : Int32)) (aX9_operate 17 rfl) rfl ?_
    refine pw_icgt (tgt := 49) (aX9_operate 18 rfl) (by decide) (fun b1 => ?_) (fun b1 => ?_)
    · skip
      exact pw_Li (L2 := [(0, .ref (base + 48)), (1, .int (a1)), (2, va_rf (h_rf base (a2))), (3, .int (a3))]) [0, 1, 2, 3] (rX9_operate_49 hkb a1 a2 a3  n sl SH FI FL FR hok  ) ⟨rfl, rfl, rfl, rfl, trivial⟩
    · skip
      refine pw_aloadn (aX9_operate 19 rfl) rfl ?_
      refine pw_getr (v := .ref (base + 71)) (aX9_operate 20 rfl) uf_RX9_18 un_RX9_18 (congrArg (fun r => va_rf (h_rf base r)) (q48_3 (hok).2.1)) ?_
      refine pw_iconst (v := (2 : Int32)) (aX9_operate 21 rfl) rfl ?_
      refine pw_iloadn (aX9_operate 22 rfl) rfl ?_
      refine pw_bipush (v := (80 : Int32)) (aX9_operate 23 rfl) rfl ?_
      refine pw_isub (aX9_operate 24 rfl) ?_
      refine pw_i2l (aX9_operate 25 rfl) ?_
      refine pw_callV (Bs := [.int ((2 : Int32)), .long (((a1) - ((80 : Int32))).toInt64)]) (rest := []) (aX9_operate 26 rfl) um_RX9_65 ujX5_become wc_RX9_65.2.2.2.2 (by decide) (by decide) rfl rfl (fun d => rX5_become hkb 71 ((2 : Int32)) (((a1) - ((80 : Int32))).toInt64) n sl SH FI FL FR hok) (fun v2 n2 sl2 SH2 FI2 FL2 FR2 hok2 _ => ?_)
      show pw _ _ _ _ _ _ _ 47 _ [] _ _
      refine pw_iconst (v := (0 : Int32)) (aX9_operate 27 rfl) rfl ?_
      exact pw_iret (aX9_operate 28 rfl) hok2
set_option maxHeartbeats 4000000 in
set_option maxRecDepth 100000 in
theorem rX9_operate {sk : xK} {base N d : Nat} (hkb : x_kb sk base) (a1 : Int32) (a2 : Option Nat) (a3 : Int32) (n sl : Nat) (SH : Nat → Nat × Nat) (FI : Nat → Nat → Int32) (FL : Nat → Nat → Int64) (FR : Nat → Nat → Option Nat) (hok : pk n SH FR)  : pw pj_I sk base N d none 98 0 [(0, .ref (base + 48)), (1, .int (a1)), (2, va_rf (h_rf base (a2))), (3, .int (a3))] [] (n, sl, SH, FI, FL, FR) (RX9_operate a1 a2 a3 n sl SH FI FL FR) := by
  unfold RX9_operate
  refine pw_iloadn (aX9_operate 0 rfl) rfl ?_
  refine pw_bipush (v := (48 : Int32)) (aX9_operate 1 rfl) rfl ?_
  refine pw_iclt (tgt := 22) (aX9_operate 2 rfl) (by decide) (fun b0 => ?_) (fun b0 => ?_)
  · skip
    exact pw_Li (L2 := [(0, .ref (base + 48)), (1, .int (a1)), (2, va_rf (h_rf base (a2))), (3, .int (a3))]) [0, 1, 2, 3] (rX9_operate_22 hkb a1 a2 a3  n sl SH FI FL FR hok  ) ⟨rfl, rfl, rfl, rfl, trivial⟩
  · skip
    refine pw_iloadn (aX9_operate 3 rfl) rfl ?_
    refine pw_bipush (v := (79 : Int32)) (aX9_operate 4 rfl) rfl ?_
    refine pw_icgt (tgt := 22) (aX9_operate 5 rfl) (by decide) (fun b1 => ?_) (fun b1 => ?_)
    · skip
      exact pw_Li (L2 := [(0, .ref (base + 48)), (1, .int (a1)), (2, va_rf (h_rf base (a2))), (3, .int (a3))]) [0, 1, 2, 3] (rX9_operate_22 hkb a1 a2 a3  n sl SH FI FL FR hok  ) ⟨rfl, rfl, rfl, rfl, trivial⟩
    · skip
      refine pw_aloadn (aX9_operate 6 rfl) rfl ?_
      refine pw_iloadn (aX9_operate 7 rfl) rfl ?_
      refine pw_bipush (v := (48 : Int32)) (aX9_operate 8 rfl) rfl ?_
      refine pw_isub (aX9_operate 9 rfl) ?_
      refine pw_i2l (aX9_operate 10 rfl) ?_
      refine pw_callV (Bs := [.long (((a1) - ((48 : Int32))).toInt64)]) (rest := []) (aX9_operate 11 rfl) um_RX9_158 ujX9_push wc_RX9_158.2.2.2.2 (by decide) (by decide) rfl rfl (fun d => rX9_push hkb (((a1) - ((48 : Int32))).toInt64) n sl SH FI FL FR hok) (fun v2 n2 sl2 SH2 FI2 FL2 FR2 hok2 _ => ?_)
      show pw _ _ _ _ _ _ _ 21 _ [.int (v2)] _ _
      exact pw_iret (aX9_operate 12 rfl) hok2
set_option maxHeartbeats 4000000 in
set_option maxRecDepth 100000 in
theorem rX9_perform_69 {sk : xK} {base N d : Nat} {K6 : Int32 → Int32 → Nat → Nat → (Nat → Nat × Nat) → (Nat → Nat → Int32) → (Nat → Nat → Int64) → (Nat → Nat → Option Nat) → Int32 → hS → Prop} (hkb : x_kb sk base) (MX9_perform : Option Nat → Int32 → Int32 → Int32 → Nat → Nat → (Nat → Nat × Nat) → (Nat → Nat → Int32) → (Nat → Nat → Int64) → (Nat → Nat → Option Nat) → Int32 → hS → Prop) (MX9_step : Option Nat → Int32 → Int32 → Int32 → Nat → Nat → (Nat → Nat × Nat) → (Nat → Nat → Int32) → (Nat → Nat → Int64) → (Nat → Nat → Option Nat) → Int32 → hS → Prop) (MX9_call : Int64 → Int32 → Nat → Nat → (Nat → Nat × Nat) → (Nat → Nat → Int32) → (Nat → Nat → Int64) → (Nat → Nat → Option Nat) → Int32 → hS → Prop) (a1 : Option Nat) (a2 : Int32) (a3 : Int32) (a4 : Int32) (l5i : Int32) (l6i : Int32) (l7i : Int32)  (n sl : Nat) (SH : Nat → Nat × Nat) (FI : Nat → Nat → Int32) (FL : Nat → Nat → Int64) (FR : Nat → Nat → Option Nat) (hok : pk n SH FR) (hMX9_perform : ∀ (a1 : Option Nat) (a2 : Int32) (a3 : Int32) (a4 : Int32) (n sl : Nat) (SH : Nat → Nat × Nat) (FI : Nat → Nat → Int32) (FL : Nat → Nat → Int64) (FR : Nat → Nat → Option Nat), pk n SH FR → ∀ d, pw pj_I sk base (N - 1) d none 87 0 [(0, .ref (base + 48)), (1, va_rf (h_rf base (a1))), (2, .int (a2)), (3, .int (a3)), (4, .int (a4))] [] (n, sl, SH, FI, FL, FR) (MX9_perform a1 a2 a3 a4 n sl SH FI FL FR)) (hMX9_step : ∀ (a1 : Option Nat) (a2 : Int32) (a3 : Int32) (a4 : Int32) (n sl : Nat) (SH : Nat → Nat × Nat) (FI : Nat → Nat → Int32) (FL : Nat → Nat → Int64) (FR : Nat → Nat → Option Nat), pk n SH FR → ∀ d, pw pj_I sk base (N - 1) d none 88 0 [(0, .ref (base + 48)), (1, va_rf (h_rf base (a1))), (2, .int (a2)), (3, .int (a3)), (4, .int (a4))] [] (n, sl, SH, FI, FL, FR) (MX9_step a1 a2 a3 a4 n sl SH FI FL FR)) (hMX9_call : ∀ (a1 : Int64) (a2 : Int32) (n sl : Nat) (SH : Nat → Nat × Nat) (FI : Nat → Nat → Int32) (FL : Nat → Nat → Int64) (FR : Nat → Nat → Option Nat), pk n SH FR → ∀ d, pw pj_I sk base (N - 1) d none 97 0 [(0, .ref (base + 48)), (1, .long (a1)), (3, .int (a2))] [] (n, sl, SH, FI, FL, FR) (MX9_call a1 a2 n sl SH FI FL FR)) (hK6 : ∀ (l5i : Int32) (l6i : Int32) (l7i : Int32) (n sl : Nat) (SH : Nat → Nat × Nat) (FI : Nat → Nat → Int32) (FL : Nat → Nat → Int64) (FR : Nat → Nat → Option Nat), pk n SH FR → pw pj_I sk base N d none 87 6 [(0, .ref (base + 48)), (1, va_rf (h_rf base (a1))), (2, .int (a2)), (3, .int (a3)), (4, .int (a4)), (5, .int (l5i)), (6, .int (l6i)), (7, .int (l7i))] [] (n, sl, SH, FI, FL, FR) (K6 l5i l6i n sl SH FI FL FR)) : pw pj_I sk base N d none 87 69 [(0, .ref (base + 48)), (1, va_rf (h_rf base (a1))), (2, .int (a2)), (3, .int (a3)), (4, .int (a4)), (5, .int (l5i)), (6, .int (l6i)), (7, .int (l7i))] [] (n, sl, SH, FI, FL, FR) (RX9_perform_69 K6 MX9_perform MX9_step MX9_call a1 a2 a3 a4 l5i l6i l7i n sl SH FI FL FR) := by
  unfold RX9_perform_69
  refine pw_iload (aX9_perform 35 rfl) rfl ?_
  refine pw_ifeq (tgt := 85) (aX9_perform 36 rfl) (by decide) (fun b0 => ?_) (fun b0 => ?_)
  · skip
    refine pw_aloadn (aX9_perform 44 rfl) rfl ?_
    refine pw_getr (v := .int (FI 48 11)) (aX9_perform 45 rfl) uf_RX9_75 un_RX9_75 rfl ?_
    refine pw_istore (L2 := [(5, .int (FI 48 11)), (0, .ref (base + 48)), (1, va_rf (h_rf base (a1))), (2, .int (a2)), (3, .int (a3)), (4, .int (a4)), (6, .int (l6i)), (7, .int (l7i))]) (aX9_perform 46 rfl) (by first | rfl | (simp [x_s1, x_s2, va_cat, va_ci, va_cl, va_cr, va_cn]; done) | (simp [x_s1, x_s2, va_cat, va_ci, va_cl, va_cr, va_cn]; decide)) ?_
    refine pw_iinc (v := (l6i) + (1 : Int32)) (L2 := [(6, .int ((l6i) + (1 : Int32))), (5, .int (FI 48 11)), (0, .ref (base + 48)), (1, va_rf (h_rf base (a1))), (2, .int (a2)), (3, .int (a3)), (4, .int (a4)), (7, .int (l7i))]) (aX9_perform 47 rfl) rfl rfl (by first | rfl | (simp [x_s1, x_s2, va_cat, va_ci, va_cl, va_cr, va_cn]; done) | (simp [x_s1, x_s2, va_cat, va_ci, va_cl, va_cr, va_cn]; decide)) ?_
    refine pw_goto (tgt := 6) (aX9_perform 48 rfl) (by decide) ?_
    exact pw_Li (L2 := [(0, .ref (base + 48)), (1, va_rf (h_rf base (a1))), (2, .int (a2)), (3, .int (a3)), (4, .int (a4)), (5, .int (FI 48 11)), (6, .int ((l6i) + (1 : Int32))), (7, .int (l7i))]) [6, 5, 0, 1, 2, 3, 4, 7] (hK6 (FI 48 11) ((l6i) + (1 : Int32)) (l7i) n sl SH FI FL FR hok) ⟨rfl, rfl, rfl, rfl, rfl, rfl, rfl, rfl, trivial⟩
  · skip
    refine pw_aloadn (aX9_perform 37 rfl) rfl ?_
    refine pw_iload (aX9_perform 38 rfl) rfl ?_
    refine pw_iloadn (aX9_perform 39 rfl) rfl ?_
    refine pw_isub (aX9_perform 40 rfl) ?_
    refine pw_putri (aX9_perform 41 rfl) uf_RX9_49 (fun _ _ _ => rfl) (fun t2 => ?_)
    refine pw_iload (aX9_perform 42 rfl) rfl ?_
    exact pw_iret (aX9_perform 43 rfl) hok
set_option maxHeartbeats 4000000 in
set_option maxRecDepth 100000 in
theorem rX9_perform_65 {sk : xK} {base N d : Nat} {K6 : Int32 → Int32 → Nat → Nat → (Nat → Nat × Nat) → (Nat → Nat → Int32) → (Nat → Nat → Int64) → (Nat → Nat → Option Nat) → Int32 → hS → Prop} (hkb : x_kb sk base) (MX9_perform : Option Nat → Int32 → Int32 → Int32 → Nat → Nat → (Nat → Nat × Nat) → (Nat → Nat → Int32) → (Nat → Nat → Int64) → (Nat → Nat → Option Nat) → Int32 → hS → Prop) (MX9_step : Option Nat → Int32 → Int32 → Int32 → Nat → Nat → (Nat → Nat × Nat) → (Nat → Nat → Int32) → (Nat → Nat → Int64) → (Nat → Nat → Option Nat) → Int32 → hS → Prop) (MX9_call : Int64 → Int32 → Nat → Nat → (Nat → Nat × Nat) → (Nat → Nat → Int32) → (Nat → Nat → Int64) → (Nat → Nat → Option Nat) → Int32 → hS → Prop) (a1 : Option Nat) (a2 : Int32) (a3 : Int32) (a4 : Int32) (l5i : Int32) (l6i : Int32) (l7i : Int32) (n sl : Nat) (SH : Nat → Nat × Nat) (FI : Nat → Nat → Int32) (FL : Nat → Nat → Int64) (FR : Nat → Nat → Option Nat) (hok : pk n SH FR) (hMX9_perform : ∀ (a1 : Option Nat) (a2 : Int32) (a3 : Int32) (a4 : Int32) (n sl : Nat) (SH : Nat → Nat × Nat) (FI : Nat → Nat → Int32) (FL : Nat → Nat → Int64) (FR : Nat → Nat → Option Nat), pk n SH FR → ∀ d, pw pj_I sk base (N - 1) d none 87 0 [(0, .ref (base + 48)), (1, va_rf (h_rf base (a1))), (2, .int (a2)), (3, .int (a3)), (4, .int (a4))] [] (n, sl, SH, FI, FL, FR) (MX9_perform a1 a2 a3 a4 n sl SH FI FL FR)) (hMX9_step : ∀ (a1 : Option Nat) (a2 : Int32) (a3 : Int32) (a4 : Int32) (n sl : Nat) (SH : Nat → Nat × Nat) (FI : Nat → Nat → Int32) (FL : Nat → Nat → Int64) (FR : Nat → Nat → Option Nat), pk n SH FR → ∀ d, pw pj_I sk base (N - 1) d none 88 0 [(0, .ref (base + 48)), (1, va_rf (h_rf base (a1))), (2, .int (a2)), (3, .int (a3)), (4, .int (a4))] [] (n, sl, SH, FI, FL, FR) (MX9_step a1 a2 a3 a4 n sl SH FI FL FR)) (hMX9_call : ∀ (a1 : Int64) (a2 : Int32) (n sl : Nat) (SH : Nat → Nat × Nat) (FI : Nat → Nat → Int32) (FL : Nat → Nat → Int64) (FR : Nat → Nat → Option Nat), pk n SH FR → ∀ d, pw pj_I sk base (N - 1) d none 97 0 [(0, .ref (base + 48)), (1, .long (a1)), (3, .int (a2))] [] (n, sl, SH, FI, FL, FR) (MX9_call a1 a2 n sl SH FI FL FR)) (hK6 : ∀ (l5i : Int32) (l6i : Int32) (l7i : Int32) (n sl : Nat) (SH : Nat → Nat × Nat) (FI : Nat → Nat → Int32) (FL : Nat → Nat → Int64) (FR : Nat → Nat → Option Nat), pk n SH FR → pw pj_I sk base N d none 87 6 [(0, .ref (base + 48)), (1, va_rf (h_rf base (a1))), (2, .int (a2)), (3, .int (a3)), (4, .int (a4)), (5, .int (l5i)), (6, .int (l6i)), (7, .int (l7i))] [] (n, sl, SH, FI, FL, FR) (K6 l5i l6i n sl SH FI FL FR)) : pw pj_I sk base N d none 87 65 [(0, .ref (base + 48)), (1, va_rf (h_rf base (a1))), (2, .int (a2)), (3, .int (a3)), (4, .int (a4)), (5, .int (l5i)), (6, .int (l6i)), (7, .int (l7i))] [] (n, sl, SH, FI, FL, FR) (RX9_perform_65 K6 MX9_perform MX9_step MX9_call a1 a2 a3 a4 l5i l6i n sl SH FI FL FR) := by
  unfold RX9_perform_65
  refine pw_bipush (v := (7 : Int32)) (aX9_perform 33 rfl) rfl ?_
  refine pw_istore (L2 := [(7, .int ((7 : Int32))), (0, .ref (base + 48)), (1, va_rf (h_rf base (a1))), (2, .int (a2)), (3, .int (a3)), (4, .int (a4)), (5, .int (l5i)), (6, .int (l6i))]) (aX9_perform 34 rfl) (by first | rfl | (simp [x_s1, x_s2, va_cat, va_ci, va_cl, va_cr, va_cn]; done) | (simp [x_s1, x_s2, va_cat, va_ci, va_cl, va_cr, va_cn]; decide)) ?_
  exact pw_Li (L2 := [(0, .ref (base + 48)), (1, va_rf (h_rf base (a1))), (2, .int (a2)), (3, .int (a3)), (4, .int (a4)), (5, .int (l5i)), (6, .int (l6i)), (7, .int ((7 : Int32)))]) [7, 0, 1, 2, 3, 4, 5, 6] (rX9_perform_69 hkb MX9_perform MX9_step MX9_call a1 a2 a3 a4 (l5i) (l6i) ((7 : Int32)) n sl SH FI FL FR hok (fun a1 a2 a3 a4 n sl SH FI FL FR ok d => pw_mono (hMX9_perform a1 a2 a3 a4 n sl SH FI FL FR ok d) (by omega)) (fun a1 a2 a3 a4 n sl SH FI FL FR ok d => pw_mono (hMX9_step a1 a2 a3 a4 n sl SH FI FL FR ok d) (by omega)) (fun a1 a2 n sl SH FI FL FR ok d => pw_mono (hMX9_call a1 a2 n sl SH FI FL FR ok d) (by omega)) hK6) ⟨rfl, rfl, rfl, rfl, rfl, rfl, rfl, rfl, trivial⟩
set_option maxHeartbeats 4000000 in
set_option maxRecDepth 100000 in
theorem bX9_perform_6 {sk : xK} {base N d : Nat} {K6 : Int32 → Int32 → Nat → Nat → (Nat → Nat × Nat) → (Nat → Nat → Int32) → (Nat → Nat → Int64) → (Nat → Nat → Option Nat) → Int32 → hS → Prop} (hkb : x_kb sk base) (MX9_perform : Option Nat → Int32 → Int32 → Int32 → Nat → Nat → (Nat → Nat × Nat) → (Nat → Nat → Int32) → (Nat → Nat → Int64) → (Nat → Nat → Option Nat) → Int32 → hS → Prop) (MX9_step : Option Nat → Int32 → Int32 → Int32 → Nat → Nat → (Nat → Nat × Nat) → (Nat → Nat → Int32) → (Nat → Nat → Int64) → (Nat → Nat → Option Nat) → Int32 → hS → Prop) (MX9_call : Int64 → Int32 → Nat → Nat → (Nat → Nat × Nat) → (Nat → Nat → Int32) → (Nat → Nat → Int64) → (Nat → Nat → Option Nat) → Int32 → hS → Prop) (a1 : Option Nat) (a2 : Int32) (a3 : Int32) (a4 : Int32) (l5i : Int32) (l6i : Int32) (l7i : Int32) (n sl : Nat) (SH : Nat → Nat × Nat) (FI : Nat → Nat → Int32) (FL : Nat → Nat → Int64) (FR : Nat → Nat → Option Nat) (hok : pk n SH FR) (hMX9_perform : ∀ (a1 : Option Nat) (a2 : Int32) (a3 : Int32) (a4 : Int32) (n sl : Nat) (SH : Nat → Nat × Nat) (FI : Nat → Nat → Int32) (FL : Nat → Nat → Int64) (FR : Nat → Nat → Option Nat), pk n SH FR → ∀ d, pw pj_I sk base (N + 1 - 1) d none 87 0 [(0, .ref (base + 48)), (1, va_rf (h_rf base (a1))), (2, .int (a2)), (3, .int (a3)), (4, .int (a4))] [] (n, sl, SH, FI, FL, FR) (MX9_perform a1 a2 a3 a4 n sl SH FI FL FR)) (hMX9_step : ∀ (a1 : Option Nat) (a2 : Int32) (a3 : Int32) (a4 : Int32) (n sl : Nat) (SH : Nat → Nat × Nat) (FI : Nat → Nat → Int32) (FL : Nat → Nat → Int64) (FR : Nat → Nat → Option Nat), pk n SH FR → ∀ d, pw pj_I sk base (N + 1 - 1) d none 88 0 [(0, .ref (base + 48)), (1, va_rf (h_rf base (a1))), (2, .int (a2)), (3, .int (a3)), (4, .int (a4))] [] (n, sl, SH, FI, FL, FR) (MX9_step a1 a2 a3 a4 n sl SH FI FL FR)) (hMX9_call : ∀ (a1 : Int64) (a2 : Int32) (n sl : Nat) (SH : Nat → Nat × Nat) (FI : Nat → Nat → Int32) (FL : Nat → Nat → Int64) (FR : Nat → Nat → Option Nat), pk n SH FR → ∀ d, pw pj_I sk base (N + 1 - 1) d none 97 0 [(0, .ref (base + 48)), (1, .long (a1)), (3, .int (a2))] [] (n, sl, SH, FI, FL, FR) (MX9_call a1 a2 n sl SH FI FL FR)) (hK6 : ∀ (l5i : Int32) (l6i : Int32) (l7i : Int32) (n sl : Nat) (SH : Nat → Nat × Nat) (FI : Nat → Nat → Int32) (FL : Nat → Nat → Int64) (FR : Nat → Nat → Option Nat), pk n SH FR → pw pj_I sk base N d none 87 6 [(0, .ref (base + 48)), (1, va_rf (h_rf base (a1))), (2, .int (a2)), (3, .int (a3)), (4, .int (a4)), (5, .int (l5i)), (6, .int (l6i)), (7, .int (l7i))] [] (n, sl, SH, FI, FL, FR) (K6 l5i l6i n sl SH FI FL FR)) : pw pj_I sk base (N + 1) d none 87 6 [(0, .ref (base + 48)), (1, va_rf (h_rf base (a1))), (2, .int (a2)), (3, .int (a3)), (4, .int (a4)), (5, .int (l5i)), (6, .int (l6i)), (7, .int (l7i))] [] (n, sl, SH, FI, FL, FR) (BX9_perform_6 K6 MX9_perform MX9_step MX9_call a1 a2 a3 a4 l5i l6i n sl SH FI FL FR) := by
  unfold BX9_perform_6
  refine pd_iload (aX9_perform 4 rfl) rfl ?_
  refine pw_sipush (v := (1000 : Int32)) (aX9_perform 5 rfl) rfl ?_
  refine pw_icgt (tgt := 97) (aX9_perform 6 rfl) (by decide) (fun b0 => ?_) (fun b0 => ?_)
  · skip
    refine pw_iconst (v := (0 : Int32)) (aX9_perform 49 rfl) rfl ?_
    exact pw_iret (aX9_perform 50 rfl) hok
  · skip
    refine pw_iload (aX9_perform 7 rfl) rfl ?_
    refine pw_iflt (tgt := 97) (aX9_perform 8 rfl) (by decide) (fun b1 => ?_) (fun b1 => ?_)
    · skip
      refine pw_iconst (v := (0 : Int32)) (aX9_perform 49 rfl) rfl ?_
      exact pw_iret (aX9_perform 50 rfl) hok
    · skip
      refine pw_iload (aX9_perform 9 rfl) rfl ?_
      refine pw_iloadn (aX9_perform 10 rfl) rfl ?_
      refine pw_icge (tgt := 97) (aX9_perform 11 rfl) (by decide) (fun b2 => ?_) (fun b2 => ?_)
      · skip
        refine pw_iload (aX9_perform 12 rfl) rfl ?_
        refine pw_aloadn (aX9_perform 13 rfl) rfl ?_
        refine pw_alen hkb (o := a1) (aX9_perform 14 rfl) (fun c4 hc4 _ => ?_)
        refine pw_icge (tgt := 97) (aX9_perform 15 rfl) (by decide) (fun b4 => ?_) (fun b4 => ?_)
        · skip
          refine pw_aloadn (aX9_perform 16 rfl) rfl ?_
          refine pw_aloadn (aX9_perform 17 rfl) rfl ?_
          refine pw_iload (aX9_perform 18 rfl) rfl ?_
          refine pw_iloadn (aX9_perform 19 rfl) rfl ?_
          refine pw_iload (aX9_perform 20 rfl) rfl ?_
          refine pw_callV (Bs := [va_rf (h_rf base (a1)), .int (l5i), .int (a3), .int (a4)]) (L2 := [(0, .ref (base + 48)), (1, va_rf (h_rf base (a1))), (2, .int (l5i)), (3, .int (a3)), (4, .int (a4))]) (rest := []) (aX9_perform 21 rfl) um_RX9_72 ujX9_step wc_RX9_72.2.2.2.2 (by decide) (by decide) rfl (by first | rfl | simp [lv_args, va_cat, va_ci, va_cl, va_cr, va_cn]) (fun d => pw_mono (hMX9_step (a1) (l5i) (a3) (a4) n sl SH FI FL FR hok d) (by omega)) (fun v5 n5 sl5 SH5 FI5 FL5 FR5 hok5 _ => ?_)
          show pw _ _ _ _ _ _ _ 42 _ [.int (v5)] _ _
          refine pw_istore (L2 := [(7, .int (v5)), (0, .ref (base + 48)), (1, va_rf (h_rf base (a1))), (2, .int (a2)), (3, .int (a3)), (4, .int (a4)), (5, .int (l5i)), (6, .int (l6i))]) (aX9_perform 22 rfl) (by first | rfl | (simp [x_s1, x_s2, va_cat, va_ci, va_cl, va_cr, va_cn]; done) | (simp [x_s1, x_s2, va_cat, va_ci, va_cl, va_cr, va_cn]; decide)) ?_
          refine pw_iload (aX9_perform 23 rfl) rfl ?_
          refine pw_ifne (tgt := 69) (aX9_perform 24 rfl) (by decide) (fun b6 => ?_) (fun b6 => ?_)
          · skip
            refine pw_aloadn (aX9_perform 25 rfl) rfl ?_
            refine pw_getr (v := .int (FI5 48 11)) (aX9_perform 26 rfl) uf_RX9_75 un_RX9_75 rfl ?_
            refine pw_iloadn (aX9_perform 27 rfl) rfl ?_
            refine pw_iclt (tgt := 65) (aX9_perform 28 rfl) (by decide) (fun b7 => ?_) (fun b7 => ?_)
            · skip
              exact pw_Li (L2 := [(0, .ref (base + 48)), (1, va_rf (h_rf base (a1))), (2, .int (a2)), (3, .int (a3)), (4, .int (a4)), (5, .int (l5i)), (6, .int (l6i)), (7, .int (v5))]) [7, 0, 1, 2, 3, 4, 5, 6] (rX9_perform_65 hkb MX9_perform MX9_step MX9_call a1 a2 a3 a4 (l5i) (l6i) (v5) n5 sl5 SH5 FI5 FL5 FR5 hok5 (fun a1 a2 a3 a4 n sl SH FI FL FR ok d => pw_mono (hMX9_perform a1 a2 a3 a4 n sl SH FI FL FR ok d) (by omega)) (fun a1 a2 a3 a4 n sl SH FI FL FR ok d => pw_mono (hMX9_step a1 a2 a3 a4 n sl SH FI FL FR ok d) (by omega)) (fun a1 a2 n sl SH FI FL FR ok d => pw_mono (hMX9_call a1 a2 n sl SH FI FL FR ok d) (by omega)) hK6) ⟨rfl, rfl, rfl, rfl, rfl, rfl, rfl, rfl, trivial⟩
            · skip
              refine pw_aloadn (aX9_perform 29 rfl) rfl ?_
              refine pw_getr (v := .int (FI5 48 11)) (aX9_perform 30 rfl) uf_RX9_75 un_RX9_75 rfl ?_
              refine pw_iloadn (aX9_perform 31 rfl) rfl ?_
              refine pw_icle (tgt := 69) (aX9_perform 32 rfl) (by decide) (fun b8 => ?_) (fun b8 => ?_)
              · skip
                exact pw_Li (L2 := [(0, .ref (base + 48)), (1, va_rf (h_rf base (a1))), (2, .int (a2)), (3, .int (a3)), (4, .int (a4)), (5, .int (l5i)), (6, .int (l6i)), (7, .int (v5))]) [7, 0, 1, 2, 3, 4, 5, 6] (rX9_perform_65 hkb MX9_perform MX9_step MX9_call a1 a2 a3 a4 (l5i) (l6i) (v5) n5 sl5 SH5 FI5 FL5 FR5 hok5 (fun a1 a2 a3 a4 n sl SH FI FL FR ok d => pw_mono (hMX9_perform a1 a2 a3 a4 n sl SH FI FL FR ok d) (by omega)) (fun a1 a2 a3 a4 n sl SH FI FL FR ok d => pw_mono (hMX9_step a1 a2 a3 a4 n sl SH FI FL FR ok d) (by omega)) (fun a1 a2 n sl SH FI FL FR ok d => pw_mono (hMX9_call a1 a2 n sl SH FI FL FR ok d) (by omega)) hK6) ⟨rfl, rfl, rfl, rfl, rfl, rfl, rfl, rfl, trivial⟩
              · skip
                exact pw_Li (L2 := [(0, .ref (base + 48)), (1, va_rf (h_rf base (a1))), (2, .int (a2)), (3, .int (a3)), (4, .int (a4)), (5, .int (l5i)), (6, .int (l6i)), (7, .int (v5))]) [7, 0, 1, 2, 3, 4, 5, 6] (rX9_perform_69 hkb MX9_perform MX9_step MX9_call a1 a2 a3 a4 (l5i) (l6i) (v5) n5 sl5 SH5 FI5 FL5 FR5 hok5 (fun a1 a2 a3 a4 n sl SH FI FL FR ok d => pw_mono (hMX9_perform a1 a2 a3 a4 n sl SH FI FL FR ok d) (by omega)) (fun a1 a2 a3 a4 n sl SH FI FL FR ok d => pw_mono (hMX9_step a1 a2 a3 a4 n sl SH FI FL FR ok d) (by omega)) (fun a1 a2 n sl SH FI FL FR ok d => pw_mono (hMX9_call a1 a2 n sl SH FI FL FR ok d) (by omega)) hK6) ⟨rfl, rfl, rfl, rfl, rfl, rfl, rfl, rfl, trivial⟩
          · skip
            exact pw_Li (L2 := [(0, .ref (base + 48)), (1, va_rf (h_rf base (a1))), (2, .int (a2)), (3, .int (a3)), (4, .int (a4)), (5, .int (l5i)), (6, .int (l6i)), (7, .int (v5))]) [7, 0, 1, 2, 3, 4, 5, 6] (rX9_perform_69 hkb MX9_perform MX9_step MX9_call a1 a2 a3 a4 (l5i) (l6i) (v5) n5 sl5 SH5 FI5 FL5 FR5 hok5 (fun a1 a2 a3 a4 n sl SH FI FL FR ok d => pw_mono (hMX9_perform a1 a2 a3 a4 n sl SH FI FL FR ok d) (by omega)) (fun a1 a2 a3 a4 n sl SH FI FL FR ok d => pw_mono (hMX9_step a1 a2 a3 a4 n sl SH FI FL FR ok d) (by omega)) (fun a1 a2 n sl SH FI FL FR ok d => pw_mono (hMX9_call a1 a2 n sl SH FI FL FR ok d) (by omega)) hK6) ⟨rfl, rfl, rfl, rfl, rfl, rfl, rfl, rfl, trivial⟩
        · skip
          refine pw_iconst (v := (0 : Int32)) (aX9_perform 49 rfl) rfl ?_
          exact pw_iret (aX9_perform 50 rfl) hok
      · skip
        refine pw_iconst (v := (0 : Int32)) (aX9_perform 49 rfl) rfl ?_
        exact pw_iret (aX9_perform 50 rfl) hok
theorem gX9_perform_6 {sk : xK} {base d : Nat}  (hkb : x_kb sk base) (MX9_perform : Option Nat → Int32 → Int32 → Int32 → Nat → Nat → (Nat → Nat × Nat) → (Nat → Nat → Int32) → (Nat → Nat → Int64) → (Nat → Nat → Option Nat) → Int32 → hS → Prop) (MX9_step : Option Nat → Int32 → Int32 → Int32 → Nat → Nat → (Nat → Nat × Nat) → (Nat → Nat → Int32) → (Nat → Nat → Int64) → (Nat → Nat → Option Nat) → Int32 → hS → Prop) (MX9_call : Int64 → Int32 → Nat → Nat → (Nat → Nat × Nat) → (Nat → Nat → Int32) → (Nat → Nat → Int64) → (Nat → Nat → Option Nat) → Int32 → hS → Prop) (a1 : Option Nat) (a2 : Int32) (a3 : Int32) (a4 : Int32) (N : Nat) : (∀ (a1 : Option Nat) (a2 : Int32) (a3 : Int32) (a4 : Int32) (n sl : Nat) (SH : Nat → Nat × Nat) (FI : Nat → Nat → Int32) (FL : Nat → Nat → Int64) (FR : Nat → Nat → Option Nat), pk n SH FR → ∀ d, pw pj_I sk base (N - 1) d none 87 0 [(0, .ref (base + 48)), (1, va_rf (h_rf base (a1))), (2, .int (a2)), (3, .int (a3)), (4, .int (a4))] [] (n, sl, SH, FI, FL, FR) (MX9_perform a1 a2 a3 a4 n sl SH FI FL FR)) → (∀ (a1 : Option Nat) (a2 : Int32) (a3 : Int32) (a4 : Int32) (n sl : Nat) (SH : Nat → Nat × Nat) (FI : Nat → Nat → Int32) (FL : Nat → Nat → Int64) (FR : Nat → Nat → Option Nat), pk n SH FR → ∀ d, pw pj_I sk base (N - 1) d none 88 0 [(0, .ref (base + 48)), (1, va_rf (h_rf base (a1))), (2, .int (a2)), (3, .int (a3)), (4, .int (a4))] [] (n, sl, SH, FI, FL, FR) (MX9_step a1 a2 a3 a4 n sl SH FI FL FR)) → (∀ (a1 : Int64) (a2 : Int32) (n sl : Nat) (SH : Nat → Nat × Nat) (FI : Nat → Nat → Int32) (FL : Nat → Nat → Int64) (FR : Nat → Nat → Option Nat), pk n SH FR → ∀ d, pw pj_I sk base (N - 1) d none 97 0 [(0, .ref (base + 48)), (1, .long (a1)), (3, .int (a2))] [] (n, sl, SH, FI, FL, FR) (MX9_call a1 a2 n sl SH FI FL FR)) →  ∀ (l5i : Int32) (l6i : Int32) (l7i : Int32) (n sl : Nat) (SH : Nat → Nat × Nat) (FI : Nat → Nat → Int32) (FL : Nat → Nat → Int64) (FR : Nat → Nat → Option Nat), pk n SH FR → pw pj_I sk base N d none 87 6 [(0, .ref (base + 48)), (1, va_rf (h_rf base (a1))), (2, .int (a2)), (3, .int (a3)), (4, .int (a4)), (5, .int (l5i)), (6, .int (l6i)), (7, .int (l7i))] [] (n, sl, SH, FI, FL, FR) (GX9_perform_6  MX9_perform MX9_step MX9_call a1 a2 a3 a4 (N + 1) l5i l6i n sl SH FI FL FR) := by
  induction N with
  | zero => intros; exact pw_0
  | succ N ih => intro hMX9_perform hMX9_step hMX9_call  l5i l6i l7i n sl SH FI FL FR hok; exact bX9_perform_6 hkb MX9_perform MX9_step MX9_call a1 a2 a3 a4 l5i l6i l7i n sl SH FI FL FR hok hMX9_perform hMX9_step hMX9_call (ih (fun a1 a2 a3 a4 n sl SH FI FL FR ok d => pw_mono (hMX9_perform a1 a2 a3 a4 n sl SH FI FL FR ok d) (by omega)) (fun a1 a2 a3 a4 n sl SH FI FL FR ok d => pw_mono (hMX9_step a1 a2 a3 a4 n sl SH FI FL FR ok d) (by omega)) (fun a1 a2 n sl SH FI FL FR ok d => pw_mono (hMX9_call a1 a2 n sl SH FI FL FR ok d) (by omega)) )
theorem rX9_perform_6 {sk : xK} {base N d : Nat}  (hkb : x_kb sk base) (MX9_perform : Option Nat → Int32 → Int32 → Int32 → Nat → Nat → (Nat → Nat × Nat) → (Nat → Nat → Int32) → (Nat → Nat → Int64) → (Nat → Nat → Option Nat) → Int32 → hS → Prop) (MX9_step : Option Nat → Int32 → Int32 → Int32 → Nat → Nat → (Nat → Nat × Nat) → (Nat → Nat → Int32) → (Nat → Nat → Int64) → (Nat → Nat → Option Nat) → Int32 → hS → Prop) (MX9_call : Int64 → Int32 → Nat → Nat → (Nat → Nat × Nat) → (Nat → Nat → Int32) → (Nat → Nat → Int64) → (Nat → Nat → Option Nat) → Int32 → hS → Prop) (a1 : Option Nat) (a2 : Int32) (a3 : Int32) (a4 : Int32) (l5i : Int32) (l6i : Int32) (l7i : Int32) (n sl : Nat) (SH : Nat → Nat × Nat) (FI : Nat → Nat → Int32) (FL : Nat → Nat → Int64) (FR : Nat → Nat → Option Nat) (hok : pk n SH FR) (hMX9_perform : ∀ (a1 : Option Nat) (a2 : Int32) (a3 : Int32) (a4 : Int32) (n sl : Nat) (SH : Nat → Nat × Nat) (FI : Nat → Nat → Int32) (FL : Nat → Nat → Int64) (FR : Nat → Nat → Option Nat), pk n SH FR → ∀ d, pw pj_I sk base (N - 1) d none 87 0 [(0, .ref (base + 48)), (1, va_rf (h_rf base (a1))), (2, .int (a2)), (3, .int (a3)), (4, .int (a4))] [] (n, sl, SH, FI, FL, FR) (MX9_perform a1 a2 a3 a4 n sl SH FI FL FR)) (hMX9_step : ∀ (a1 : Option Nat) (a2 : Int32) (a3 : Int32) (a4 : Int32) (n sl : Nat) (SH : Nat → Nat × Nat) (FI : Nat → Nat → Int32) (FL : Nat → Nat → Int64) (FR : Nat → Nat → Option Nat), pk n SH FR → ∀ d, pw pj_I sk base (N - 1) d none 88 0 [(0, .ref (base + 48)), (1, va_rf (h_rf base (a1))), (2, .int (a2)), (3, .int (a3)), (4, .int (a4))] [] (n, sl, SH, FI, FL, FR) (MX9_step a1 a2 a3 a4 n sl SH FI FL FR)) (hMX9_call : ∀ (a1 : Int64) (a2 : Int32) (n sl : Nat) (SH : Nat → Nat × Nat) (FI : Nat → Nat → Int32) (FL : Nat → Nat → Int64) (FR : Nat → Nat → Option Nat), pk n SH FR → ∀ d, pw pj_I sk base (N - 1) d none 97 0 [(0, .ref (base + 48)), (1, .long (a1)), (3, .int (a2))] [] (n, sl, SH, FI, FL, FR) (MX9_call a1 a2 n sl SH FI FL FR))  : pw pj_I sk base N d none 87 6 [(0, .ref (base + 48)), (1, va_rf (h_rf base (a1))), (2, .int (a2)), (3, .int (a3)), (4, .int (a4)), (5, .int (l5i)), (6, .int (l6i)), (7, .int (l7i))] [] (n, sl, SH, FI, FL, FR) (RX9_perform_6  MX9_perform MX9_step MX9_call a1 a2 a3 a4 l5i l6i n sl SH FI FL FR) := pw_cons (gX9_perform_6 hkb MX9_perform MX9_step MX9_call a1 a2 a3 a4 N hMX9_perform hMX9_step hMX9_call  l5i l6i l7i n sl SH FI FL FR hok) (fun _ _ h => ⟨_, h⟩)
set_option maxHeartbeats 4000000 in
set_option maxRecDepth 100000 in
theorem rX9_perform {sk : xK} {base N d : Nat} (hkb : x_kb sk base) (MX9_perform : Option Nat → Int32 → Int32 → Int32 → Nat → Nat → (Nat → Nat × Nat) → (Nat → Nat → Int32) → (Nat → Nat → Int64) → (Nat → Nat → Option Nat) → Int32 → hS → Prop) (MX9_step : Option Nat → Int32 → Int32 → Int32 → Nat → Nat → (Nat → Nat × Nat) → (Nat → Nat → Int32) → (Nat → Nat → Int64) → (Nat → Nat → Option Nat) → Int32 → hS → Prop) (MX9_call : Int64 → Int32 → Nat → Nat → (Nat → Nat × Nat) → (Nat → Nat → Int32) → (Nat → Nat → Int64) → (Nat → Nat → Option Nat) → Int32 → hS → Prop) (a1 : Option Nat) (a2 : Int32) (a3 : Int32) (a4 : Int32) (n sl : Nat) (SH : Nat → Nat × Nat) (FI : Nat → Nat → Int32) (FL : Nat → Nat → Int64) (FR : Nat → Nat → Option Nat) (hok : pk n SH FR) (hMX9_perform : ∀ (a1 : Option Nat) (a2 : Int32) (a3 : Int32) (a4 : Int32) (n sl : Nat) (SH : Nat → Nat × Nat) (FI : Nat → Nat → Int32) (FL : Nat → Nat → Int64) (FR : Nat → Nat → Option Nat), pk n SH FR → ∀ d, pw pj_I sk base (N - 1) d none 87 0 [(0, .ref (base + 48)), (1, va_rf (h_rf base (a1))), (2, .int (a2)), (3, .int (a3)), (4, .int (a4))] [] (n, sl, SH, FI, FL, FR) (MX9_perform a1 a2 a3 a4 n sl SH FI FL FR)) (hMX9_step : ∀ (a1 : Option Nat) (a2 : Int32) (a3 : Int32) (a4 : Int32) (n sl : Nat) (SH : Nat → Nat × Nat) (FI : Nat → Nat → Int32) (FL : Nat → Nat → Int64) (FR : Nat → Nat → Option Nat), pk n SH FR → ∀ d, pw pj_I sk base (N - 1) d none 88 0 [(0, .ref (base + 48)), (1, va_rf (h_rf base (a1))), (2, .int (a2)), (3, .int (a3)), (4, .int (a4))] [] (n, sl, SH, FI, FL, FR) (MX9_step a1 a2 a3 a4 n sl SH FI FL FR)) (hMX9_call : ∀ (a1 : Int64) (a2 : Int32) (n sl : Nat) (SH : Nat → Nat × Nat) (FI : Nat → Nat → Int32) (FL : Nat → Nat → Int64) (FR : Nat → Nat → Option Nat), pk n SH FR → ∀ d, pw pj_I sk base (N - 1) d none 97 0 [(0, .ref (base + 48)), (1, .long (a1)), (3, .int (a2))] [] (n, sl, SH, FI, FL, FR) (MX9_call a1 a2 n sl SH FI FL FR)) : pw pj_I sk base N d none 87 0 [(0, .ref (base + 48)), (1, va_rf (h_rf base (a1))), (2, .int (a2)), (3, .int (a3)), (4, .int (a4))] [] (n, sl, SH, FI, FL, FR) (RX9_perform MX9_perform MX9_step MX9_call a1 a2 a3 a4 n sl SH FI FL FR) := by
  unfold RX9_perform
  refine pw_iloadn (aX9_perform 0 rfl) rfl ?_
  refine pw_istore (L2 := [(5, .int (a2)), (0, .ref (base + 48)), (1, va_rf (h_rf base (a1))), (2, .int (a2)), (3, .int (a3)), (4, .int (a4))]) (aX9_perform 1 rfl) (by first | rfl | (simp [x_s1, x_s2, va_cat, va_ci, va_cl, va_cr, va_cn]; done) | (simp [x_s1, x_s2, va_cat, va_ci, va_cl, va_cr, va_cn]; decide)) ?_
  refine pw_iconst (v := (0 : Int32)) (aX9_perform 2 rfl) rfl ?_
  refine pw_istore (L2 := [(6, .int ((0 : Int32))), (5, .int (a2)), (0, .ref (base + 48)), (1, va_rf (h_rf base (a1))), (2, .int (a2)), (3, .int (a3)), (4, .int (a4))]) (aX9_perform 3 rfl) (by first | rfl | (simp [x_s1, x_s2, va_cat, va_ci, va_cl, va_cr, va_cn]; done) | (simp [x_s1, x_s2, va_cat, va_ci, va_cl, va_cr, va_cn]; decide)) ?_
  exact pw_Li (L2 := [(0, .ref (base + 48)), (1, va_rf (h_rf base (a1))), (2, .int (a2)), (3, .int (a3)), (4, .int (a4)), (5, .int (a2)), (6, .int ((0 : Int32))), (7, .int 0)]) [6, 5, 0, 1, 2, 3, 4] (rX9_perform_6 hkb MX9_perform MX9_step MX9_call a1 a2 a3 a4 (a2) ((0 : Int32)) 0 n sl SH FI FL FR hok (fun a1 a2 a3 a4 n sl SH FI FL FR ok d => pw_mono (hMX9_perform a1 a2 a3 a4 n sl SH FI FL FR ok d) (by omega)) (fun a1 a2 a3 a4 n sl SH FI FL FR ok d => pw_mono (hMX9_step a1 a2 a3 a4 n sl SH FI FL FR ok d) (by omega)) (fun a1 a2 n sl SH FI FL FR ok d => pw_mono (hMX9_call a1 a2 n sl SH FI FL FR ok d) (by omega)) ) ⟨rfl, rfl, rfl, rfl, rfl, rfl, rfl, trivial⟩
set_option maxHeartbeats 4000000 in
set_option maxRecDepth 100000 in
theorem rX9_step_90 {sk : xK} {base N d : Nat}  (hkb : x_kb sk base) (MX9_perform : Option Nat → Int32 → Int32 → Int32 → Nat → Nat → (Nat → Nat × Nat) → (Nat → Nat → Int32) → (Nat → Nat → Int64) → (Nat → Nat → Option Nat) → Int32 → hS → Prop) (MX9_step : Option Nat → Int32 → Int32 → Int32 → Nat → Nat → (Nat → Nat × Nat) → (Nat → Nat → Int32) → (Nat → Nat → Int64) → (Nat → Nat → Option Nat) → Int32 → hS → Prop) (MX9_call : Int64 → Int32 → Nat → Nat → (Nat → Nat × Nat) → (Nat → Nat → Int32) → (Nat → Nat → Int64) → (Nat → Nat → Option Nat) → Int32 → hS → Prop) (a1 : Option Nat) (a2 : Int32) (a3 : Int32) (a4 : Int32) (l5i : Int32) (l7i : Int32) (l6i : Int32) (n sl : Nat) (SH : Nat → Nat × Nat) (FI : Nat → Nat → Int32) (FL : Nat → Nat → Int64) (FR : Nat → Nat → Option Nat) (hok : pk n SH FR) (hMX9_perform : ∀ (a1 : Option Nat) (a2 : Int32) (a3 : Int32) (a4 : Int32) (n sl : Nat) (SH : Nat → Nat × Nat) (FI : Nat → Nat → Int32) (FL : Nat → Nat → Int64) (FR : Nat → Nat → Option Nat), pk n SH FR → ∀ d, pw pj_I sk base (N - 1) d none 87 0 [(0, .ref (base + 48)), (1, va_rf (h_rf base (a1))), (2, .int (a2)), (3, .int (a3)), (4, .int (a4))] [] (n, sl, SH, FI, FL, FR) (MX9_perform a1 a2 a3 a4 n sl SH FI FL FR)) (hMX9_step : ∀ (a1 : Option Nat) (a2 : Int32) (a3 : Int32) (a4 : Int32) (n sl : Nat) (SH : Nat → Nat × Nat) (FI : Nat → Nat → Int32) (FL : Nat → Nat → Int64) (FR : Nat → Nat → Option Nat), pk n SH FR → ∀ d, pw pj_I sk base (N - 1) d none 88 0 [(0, .ref (base + 48)), (1, va_rf (h_rf base (a1))), (2, .int (a2)), (3, .int (a3)), (4, .int (a4))] [] (n, sl, SH, FI, FL, FR) (MX9_step a1 a2 a3 a4 n sl SH FI FL FR)) (hMX9_call : ∀ (a1 : Int64) (a2 : Int32) (n sl : Nat) (SH : Nat → Nat × Nat) (FI : Nat → Nat → Int32) (FL : Nat → Nat → Int64) (FR : Nat → Nat → Option Nat), pk n SH FR → ∀ d, pw pj_I sk base (N - 1) d none 97 0 [(0, .ref (base + 48)), (1, .long (a1)), (3, .int (a2))] [] (n, sl, SH, FI, FL, FR) (MX9_call a1 a2 n sl SH FI FL FR))  : pw pj_I sk base N d none 88 90 [(0, .ref (base + 48)), (1, va_rf (h_rf base (a1))), (2, .int (a2)), (3, .int (a3)), (4, .int (a4)), (5, .int (l5i)), (6, .int (l6i)), (7, .int (l7i))] [] (n, sl, SH, FI, FL, FR) (RX9_step_90  MX9_perform MX9_step MX9_call a1 a2 a3 a4 l5i l7i n sl SH FI FL FR) := by
  unfold RX9_step_90
  refine pw_aloadn (aX9_step 48 rfl) rfl ?_
  refine pw_iload (aX9_step 49 rfl) rfl ?_
  refine pw_bipush (v := (47 : Int32)) (aX9_step 50 rfl) rfl ?_
  refine pw_iceq (tgt := 107) (aX9_step 51 rfl) (by decide) (fun b0 => ?_) (fun b0 => ?_)
  · skip
    refine pw_iload (aX9_step 57 rfl) rfl ?_
    refine pw_aloadn (aX9_step 58 rfl) rfl ?_
    refine pw_getr (v := .long (FL 48 12)) (aX9_step 59 rfl) uf_RX9_96 un_RX9_96 rfl ?_
    refine pw_l2i (aX9_step 60 rfl) ?_
    refine pw_iadd (aX9_step 61 rfl) ?_
    refine pw_goto (tgt := 120) (aX9_step 62 rfl) (by decide) ?_
    refine pw_putri (aX9_step 64 rfl) uf_RX9_75 (fun _ _ _ => rfl) (fun t2 => ?_)
    refine pw_iconst (v := (0 : Int32)) (aX9_step 65 rfl) rfl ?_
    exact pw_iret (aX9_step 66 rfl) hok
  · skip
    refine pw_aloadn (aX9_step 52 rfl) rfl ?_
    refine pw_callV (Bs := []) (rest := [.ref (base + 48)]) (aX9_step 53 rfl) um_RX9_92 ujX9_pop wc_RX9_92.2.2.2.2 (by decide) (by decide) rfl rfl (fun d => rX9_pop hkb  n sl SH FI FL FR hok) (fun v2 n2 sl2 SH2 FI2 FL2 FR2 hok2 _ => ?_)
    show pw _ _ _ _ _ _ _ 102 _ [.long (v2), .ref (base + 48)] _ _
    refine pw_lconst (v := (0 : Int64)) (aX9_step 54 rfl) rfl ?_
    refine pw_lceq (tgt := 118) (aX9_step 55 rfl) (aX9_step 56 rfl) (by decide) (fun b3 => ?_) (fun b3 => ?_)
    · skip
      refine pw_iload (aX9_step 63 rfl) rfl ?_
      refine pw_putri (aX9_step 64 rfl) uf_RX9_75 (fun _ _ _ => rfl) (fun t5 => ?_)
      refine pw_iconst (v := (0 : Int32)) (aX9_step 65 rfl) rfl ?_
      exact pw_iret (aX9_step 66 rfl) hok2
    · skip
      refine pw_iload (aX9_step 57 rfl) rfl ?_
      refine pw_aloadn (aX9_step 58 rfl) rfl ?_
      refine pw_getr (v := .long (FL2 48 12)) (aX9_step 59 rfl) uf_RX9_96 un_RX9_96 rfl ?_
      refine pw_l2i (aX9_step 60 rfl) ?_
      refine pw_iadd (aX9_step 61 rfl) ?_
      refine pw_goto (tgt := 120) (aX9_step 62 rfl) (by decide) ?_
      refine pw_putri (aX9_step 64 rfl) uf_RX9_75 (fun _ _ _ => rfl) (fun t6 => ?_)
      refine pw_iconst (v := (0 : Int32)) (aX9_step 65 rfl) rfl ?_
      exact pw_iret (aX9_step 66 rfl) hok2
set_option maxHeartbeats 4000000 in
set_option maxRecDepth 100000 in
theorem rX9_step_62 {sk : xK} {base N d : Nat}  (hkb : x_kb sk base) (MX9_perform : Option Nat → Int32 → Int32 → Int32 → Nat → Nat → (Nat → Nat × Nat) → (Nat → Nat → Int32) → (Nat → Nat → Int64) → (Nat → Nat → Option Nat) → Int32 → hS → Prop) (MX9_step : Option Nat → Int32 → Int32 → Int32 → Nat → Nat → (Nat → Nat × Nat) → (Nat → Nat → Int32) → (Nat → Nat → Int64) → (Nat → Nat → Option Nat) → Int32 → hS → Prop) (MX9_call : Int64 → Int32 → Nat → Nat → (Nat → Nat × Nat) → (Nat → Nat → Int32) → (Nat → Nat → Int64) → (Nat → Nat → Option Nat) → Int32 → hS → Prop) (a1 : Option Nat) (a2 : Int32) (a3 : Int32) (a4 : Int32) (l5i : Int32) (l6i : Int32)  (n sl : Nat) (SH : Nat → Nat × Nat) (FI : Nat → Nat → Int32) (FL : Nat → Nat → Int64) (FR : Nat → Nat → Option Nat) (hok : pk n SH FR) (hMX9_perform : ∀ (a1 : Option Nat) (a2 : Int32) (a3 : Int32) (a4 : Int32) (n sl : Nat) (SH : Nat → Nat × Nat) (FI : Nat → Nat → Int32) (FL : Nat → Nat → Int64) (FR : Nat → Nat → Option Nat), pk n SH FR → ∀ d, pw pj_I sk base (N - 1) d none 87 0 [(0, .ref (base + 48)), (1, va_rf (h_rf base (a1))), (2, .int (a2)), (3, .int (a3)), (4, .int (a4))] [] (n, sl, SH, FI, FL, FR) (MX9_perform a1 a2 a3 a4 n sl SH FI FL FR)) (hMX9_step : ∀ (a1 : Option Nat) (a2 : Int32) (a3 : Int32) (a4 : Int32) (n sl : Nat) (SH : Nat → Nat × Nat) (FI : Nat → Nat → Int32) (FL : Nat → Nat → Int64) (FR : Nat → Nat → Option Nat), pk n SH FR → ∀ d, pw pj_I sk base (N - 1) d none 88 0 [(0, .ref (base + 48)), (1, va_rf (h_rf base (a1))), (2, .int (a2)), (3, .int (a3)), (4, .int (a4))] [] (n, sl, SH, FI, FL, FR) (MX9_step a1 a2 a3 a4 n sl SH FI FL FR)) (hMX9_call : ∀ (a1 : Int64) (a2 : Int32) (n sl : Nat) (SH : Nat → Nat × Nat) (FI : Nat → Nat → Int32) (FL : Nat → Nat → Int64) (FR : Nat → Nat → Option Nat), pk n SH FR → ∀ d, pw pj_I sk base (N - 1) d none 97 0 [(0, .ref (base + 48)), (1, .long (a1)), (3, .int (a2))] [] (n, sl, SH, FI, FL, FR) (MX9_call a1 a2 n sl SH FI FL FR))  : pw pj_I sk base N d none 88 62 [(0, .ref (base + 48)), (1, va_rf (h_rf base (a1))), (2, .int (a2)), (3, .int (a3)), (4, .int (a4)), (5, .int (l5i)), (6, .int (l6i))] [] (n, sl, SH, FI, FL, FR) (RX9_step_62  MX9_perform MX9_step MX9_call a1 a2 a3 a4 l5i l6i n sl SH FI FL FR) := by
  unfold RX9_step_62
  refine pw_iload (aX9_step 35 rfl) rfl ?_
  refine pw_ifeq (tgt := 70) (aX9_step 36 rfl) (by decide) (fun b0 => ?_) (fun b0 => ?_)
  · skip
    refine pw_aloadn (aX9_step 39 rfl) rfl ?_
    refine pw_getr (v := .int (FI 48 10)) (aX9_step 40 rfl) uf_RX9_78 un_RX9_78 rfl ?_
    refine pw_istore (L2 := [(7, .int (FI 48 10)), (0, .ref (base + 48)), (1, va_rf (h_rf base (a1))), (2, .int (a2)), (3, .int (a3)), (4, .int (a4)), (5, .int (l5i)), (6, .int (l6i))]) (aX9_step 41 rfl) (by first | rfl | (simp [x_s1, x_s2, va_cat, va_ci, va_cl, va_cr, va_cn]; done) | (simp [x_s1, x_s2, va_cat, va_ci, va_cl, va_cr, va_cn]; decide)) ?_
    refine pw_iload (aX9_step 42 rfl) rfl ?_
    refine pw_bipush (v := (47 : Int32)) (aX9_step 43 rfl) rfl ?_
    refine pw_iceq (tgt := 90) (aX9_step 44 rfl) (by decide) (fun b1 => ?_) (fun b1 => ?_)
    · skip
      exact pw_Li (L2 := [(0, .ref (base + 48)), (1, va_rf (h_rf base (a1))), (2, .int (a2)), (3, .int (a3)), (4, .int (a4)), (5, .int (l5i)), (6, .int (l6i)), (7, .int (FI 48 10))]) [7, 0, 1, 2, 3, 4, 5, 6] (rX9_step_90 hkb MX9_perform MX9_step MX9_call a1 a2 a3 a4 (l5i) (FI 48 10) (l6i) n sl SH FI FL FR hok (fun a1 a2 a3 a4 n sl SH FI FL FR ok d => pw_mono (hMX9_perform a1 a2 a3 a4 n sl SH FI FL FR ok d) (by omega)) (fun a1 a2 a3 a4 n sl SH FI FL FR ok d => pw_mono (hMX9_step a1 a2 a3 a4 n sl SH FI FL FR ok d) (by omega)) (fun a1 a2 n sl SH FI FL FR ok d => pw_mono (hMX9_call a1 a2 n sl SH FI FL FR ok d) (by omega)) ) ⟨rfl, rfl, rfl, rfl, rfl, rfl, rfl, rfl, trivial⟩
    · skip
      refine pw_iload (aX9_step 45 rfl) rfl ?_
      refine pw_bipush (v := (40 : Int32)) (aX9_step 46 rfl) rfl ?_
      refine pw_icne (tgt := 125) (aX9_step 47 rfl) (by decide) (fun b2 => ?_) (fun b2 => ?_)
      · skip
        exact pw_Li (L2 := [(0, .ref (base + 48)), (1, va_rf (h_rf base (a1))), (2, .int (a2)), (3, .int (a3)), (4, .int (a4)), (5, .int (l5i)), (6, .int (l6i)), (7, .int (FI 48 10))]) [7, 0, 1, 2, 3, 4, 5, 6] (rX9_step_90 hkb MX9_perform MX9_step MX9_call a1 a2 a3 a4 (l5i) (FI 48 10) (l6i) n sl SH FI FL FR hok (fun a1 a2 a3 a4 n sl SH FI FL FR ok d => pw_mono (hMX9_perform a1 a2 a3 a4 n sl SH FI FL FR ok d) (by omega)) (fun a1 a2 a3 a4 n sl SH FI FL FR ok d => pw_mono (hMX9_step a1 a2 a3 a4 n sl SH FI FL FR ok d) (by omega)) (fun a1 a2 n sl SH FI FL FR ok d => pw_mono (hMX9_call a1 a2 n sl SH FI FL FR ok d) (by omega)) ) ⟨rfl, rfl, rfl, rfl, rfl, rfl, rfl, rfl, trivial⟩
      · skip
        refine pw_iload (aX9_step 67 rfl) rfl ?_
        refine pw_sipush (v := (152 : Int32)) (aX9_step 68 rfl) rfl ?_
        refine pw_iceq (tgt := 141) (aX9_step 69 rfl) (by decide) (fun b3 => ?_) (fun b3 => ?_)
        · skip
          refine pw_aloadn (aX9_step 73 rfl) rfl ?_
          refine pw_aloadn (aX9_step 74 rfl) rfl ?_
          refine pw_getr (v := .long (FL 48 12)) (aX9_step 75 rfl) uf_RX9_96 un_RX9_96 rfl ?_
          refine pw_iload (aX9_step 76 rfl) rfl ?_
          refine pw_callV (Bs := [.long (FL 48 12), .int (a4)]) (rest := []) (aX9_step 77 rfl) um_RX9_100 ujX9_call wc_RX9_100.2.2.2.2 (by decide) (by decide) rfl rfl (fun d => pw_mono (hMX9_call (FL 48 12) (a4) n sl SH FI FL FR hok d) (by omega)) (fun v4 n4 sl4 SH4 FI4 FL4 FR4 hok4 _ => ?_)
          show pw _ _ _ _ _ _ _ 151 _ [.int (v4)] _ _
          refine pw_goto (tgt := 163) (aX9_step 78 rfl) (by decide) ?_
          refine pw_istore (L2 := [(6, .int (v4)), (7, .int (FI 48 10)), (0, .ref (base + 48)), (1, va_rf (h_rf base (a1))), (2, .int (a2)), (3, .int (a3)), (4, .int (a4)), (5, .int (l5i))]) (aX9_step 84 rfl) (by first | rfl | (simp [x_s1, x_s2, va_cat, va_ci, va_cl, va_cr, va_cn]; done) | (simp [x_s1, x_s2, va_cat, va_ci, va_cl, va_cr, va_cn]; decide)) ?_
          refine pw_aloadn (aX9_step 85 rfl) rfl ?_
          refine pw_iload (aX9_step 86 rfl) rfl ?_
          refine pw_putri (aX9_step 87 rfl) uf_RX9_75 (fun _ _ _ => rfl) (fun t6 => ?_)
          refine pw_iload (aX9_step 88 rfl) rfl ?_
          exact pw_iret (aX9_step 89 rfl) hok4
        · skip
          refine pw_iload (aX9_step 70 rfl) rfl ?_
          refine pw_sipush (v := (153 : Int32)) (aX9_step 71 rfl) rfl ?_
          refine pw_icne (tgt := 154) (aX9_step 72 rfl) (by decide) (fun b6 => ?_) (fun b6 => ?_)
          · skip
            refine pw_aloadn (aX9_step 73 rfl) rfl ?_
            refine pw_aloadn (aX9_step 74 rfl) rfl ?_
            refine pw_getr (v := .long (FL 48 12)) (aX9_step 75 rfl) uf_RX9_96 un_RX9_96 rfl ?_
            refine pw_iload (aX9_step 76 rfl) rfl ?_
            refine pw_callV (Bs := [.long (FL 48 12), .int (a4)]) (rest := []) (aX9_step 77 rfl) um_RX9_100 ujX9_call wc_RX9_100.2.2.2.2 (by decide) (by decide) rfl rfl (fun d => pw_mono (hMX9_call (FL 48 12) (a4) n sl SH FI FL FR hok d) (by omega)) (fun v7 n7 sl7 SH7 FI7 FL7 FR7 hok7 _ => ?_)
            show pw _ _ _ _ _ _ _ 151 _ [.int (v7)] _ _
            refine pw_goto (tgt := 163) (aX9_step 78 rfl) (by decide) ?_
            refine pw_istore (L2 := [(6, .int (v7)), (7, .int (FI 48 10)), (0, .ref (base + 48)), (1, va_rf (h_rf base (a1))), (2, .int (a2)), (3, .int (a3)), (4, .int (a4)), (5, .int (l5i))]) (aX9_step 84 rfl) (by first | rfl | (simp [x_s1, x_s2, va_cat, va_ci, va_cl, va_cr, va_cn]; done) | (simp [x_s1, x_s2, va_cat, va_ci, va_cl, va_cr, va_cn]; decide)) ?_
            refine pw_aloadn (aX9_step 85 rfl) rfl ?_
            refine pw_iload (aX9_step 86 rfl) rfl ?_
            refine pw_putri (aX9_step 87 rfl) uf_RX9_75 (fun _ _ _ => rfl) (fun t9 => ?_)
            refine pw_iload (aX9_step 88 rfl) rfl ?_
            exact pw_iret (aX9_step 89 rfl) hok7
          · skip
            refine pw_aloadn (aX9_step 79 rfl) rfl ?_
            refine pw_iload (aX9_step 80 rfl) rfl ?_
            refine pw_aloadn (aX9_step 81 rfl) rfl ?_
            refine pw_iload (aX9_step 82 rfl) rfl ?_
            refine pw_callV (Bs := [.int (l5i), va_rf (h_rf base (a1)), .int (a4)]) (L2 := [(0, .ref (base + 48)), (1, .int (l5i)), (2, va_rf (h_rf base (a1))), (3, .int (a4))]) (rest := []) (aX9_step 83 rfl) um_RX9_104 ujX9_operate wc_RX9_104.2.2.2.2 (by decide) (by decide) rfl (by first | rfl | simp [lv_args, va_cat, va_ci, va_cl, va_cr, va_cn]) (fun d => rX9_operate hkb (l5i) (a1) (a4) n sl SH FI FL FR hok) (fun v9 n9 sl9 SH9 FI9 FL9 FR9 hok9 _ => ?_)
            show pw _ _ _ _ _ _ _ 163 _ [.int (v9)] _ _
            refine pw_istore (L2 := [(6, .int (v9)), (7, .int (FI 48 10)), (0, .ref (base + 48)), (1, va_rf (h_rf base (a1))), (2, .int (a2)), (3, .int (a3)), (4, .int (a4)), (5, .int (l5i))]) (aX9_step 84 rfl) (by first | rfl | (simp [x_s1, x_s2, va_cat, va_ci, va_cl, va_cr, va_cn]; done) | (simp [x_s1, x_s2, va_cat, va_ci, va_cl, va_cr, va_cn]; decide)) ?_
            refine pw_aloadn (aX9_step 85 rfl) rfl ?_
            refine pw_iload (aX9_step 86 rfl) rfl ?_
            refine pw_putri (aX9_step 87 rfl) uf_RX9_75 (fun _ _ _ => rfl) (fun t11 => ?_)
            refine pw_iload (aX9_step 88 rfl) rfl ?_
            exact pw_iret (aX9_step 89 rfl) hok9
  · skip
    refine pw_iload (aX9_step 37 rfl) rfl ?_
    exact pw_iret (aX9_step 38 rfl) hok
set_option maxHeartbeats 4000000 in
set_option maxRecDepth 100000 in
theorem rX9_step {sk : xK} {base N d : Nat} (hkb : x_kb sk base) (MX9_perform : Option Nat → Int32 → Int32 → Int32 → Nat → Nat → (Nat → Nat × Nat) → (Nat → Nat → Int32) → (Nat → Nat → Int64) → (Nat → Nat → Option Nat) → Int32 → hS → Prop) (MX9_step : Option Nat → Int32 → Int32 → Int32 → Nat → Nat → (Nat → Nat × Nat) → (Nat → Nat → Int32) → (Nat → Nat → Int64) → (Nat → Nat → Option Nat) → Int32 → hS → Prop) (MX9_call : Int64 → Int32 → Nat → Nat → (Nat → Nat × Nat) → (Nat → Nat → Int32) → (Nat → Nat → Int64) → (Nat → Nat → Option Nat) → Int32 → hS → Prop) (a1 : Option Nat) (a2 : Int32) (a3 : Int32) (a4 : Int32) (n sl : Nat) (SH : Nat → Nat × Nat) (FI : Nat → Nat → Int32) (FL : Nat → Nat → Int64) (FR : Nat → Nat → Option Nat) (hok : pk n SH FR) (hMX9_perform : ∀ (a1 : Option Nat) (a2 : Int32) (a3 : Int32) (a4 : Int32) (n sl : Nat) (SH : Nat → Nat × Nat) (FI : Nat → Nat → Int32) (FL : Nat → Nat → Int64) (FR : Nat → Nat → Option Nat), pk n SH FR → ∀ d, pw pj_I sk base (N - 1) d none 87 0 [(0, .ref (base + 48)), (1, va_rf (h_rf base (a1))), (2, .int (a2)), (3, .int (a3)), (4, .int (a4))] [] (n, sl, SH, FI, FL, FR) (MX9_perform a1 a2 a3 a4 n sl SH FI FL FR)) (hMX9_step : ∀ (a1 : Option Nat) (a2 : Int32) (a3 : Int32) (a4 : Int32) (n sl : Nat) (SH : Nat → Nat × Nat) (FI : Nat → Nat → Int32) (FL : Nat → Nat → Int64) (FR : Nat → Nat → Option Nat), pk n SH FR → ∀ d, pw pj_I sk base (N - 1) d none 88 0 [(0, .ref (base + 48)), (1, va_rf (h_rf base (a1))), (2, .int (a2)), (3, .int (a3)), (4, .int (a4))] [] (n, sl, SH, FI, FL, FR) (MX9_step a1 a2 a3 a4 n sl SH FI FL FR)) (hMX9_call : ∀ (a1 : Int64) (a2 : Int32) (n sl : Nat) (SH : Nat → Nat × Nat) (FI : Nat → Nat → Int32) (FL : Nat → Nat → Int64) (FR : Nat → Nat → Option Nat), pk n SH FR → ∀ d, pw pj_I sk base (N - 1) d none 97 0 [(0, .ref (base + 48)), (1, .long (a1)), (3, .int (a2))] [] (n, sl, SH, FI, FL, FR) (MX9_call a1 a2 n sl SH FI FL FR)) : pw pj_I sk base N d none 88 0 [(0, .ref (base + 48)), (1, va_rf (h_rf base (a1))), (2, .int (a2)), (3, .int (a3)), (4, .int (a4))] [] (n, sl, SH, FI, FL, FR) (RX9_step MX9_perform MX9_step MX9_call a1 a2 a3 a4 n sl SH FI FL FR) := by
  unfold RX9_step
  refine pw_aloadn (aX9_step 0 rfl) rfl ?_
  refine pw_getr (v := .int (FI 48 7)) (aX9_step 1 rfl) uf_RX9_56 un_RX9_56 rfl ?_
  refine pw_aloadn (aX9_step 2 rfl) rfl ?_
  refine pw_getr (v := .int (FI 48 6)) (aX9_step 3 rfl) uf_RX9_53 un_RX9_53 rfl ?_
  refine pw_iclt (tgt := 14) (aX9_step 4 rfl) (by decide) (fun b0 => ?_) (fun b0 => ?_)
  · skip
    refine pw_aloadn (aX9_step 7 rfl) rfl ?_
    refine pw_dup (aX9_step 8 rfl) ?_
    refine pw_getr (v := .int (FI 48 7)) (aX9_step 9 rfl) uf_RX9_56 un_RX9_56 rfl ?_
    refine pw_iconst (v := (1 : Int32)) (aX9_step 10 rfl) rfl ?_
    refine pw_iadd (aX9_step 11 rfl) ?_
    refine pw_putri (aX9_step 12 rfl) uf_RX9_56 (fun _ _ _ => rfl) (fun t2 => ?_)
    refine pw_aloadn (aX9_step 13 rfl) rfl ?_
    refine pw_iloadn (aX9_step 14 rfl) rfl ?_
    refine pw_iald (ix := (a2).toInt.toNat) (o := a1) (aX9_step 15 rfl) rfl (fun c3 hc3 _ gc3 => ?_)
    refine pw_istore (L2 := [(5, .int ((h_up FI 48 7 ((FI 48 7) + ((1 : Int32)))) c3 (a2).toInt.toNat)), (0, .ref (base + 48)), (1, va_rf (h_rf base (a1))), (2, .int (a2)), (3, .int (a3)), (4, .int (a4))]) (aX9_step 16 rfl) (by first | rfl | (simp [x_s1, x_s2, va_cat, va_ci, va_cl, va_cr, va_cn]; done) | (simp [x_s1, x_s2, va_cat, va_ci, va_cl, va_cr, va_cn]; decide)) ?_
    refine pw_aloadn (aX9_step 17 rfl) rfl ?_
    refine pw_iloadn (aX9_step 18 rfl) rfl ?_
    refine pw_iconst (v := (1 : Int32)) (aX9_step 19 rfl) rfl ?_
    refine pw_iadd (aX9_step 20 rfl) ?_
    refine pw_putri (aX9_step 21 rfl) uf_RX9_78 (fun _ _ _ => rfl) (fun t4 => ?_)
    refine pw_aloadn (aX9_step 22 rfl) rfl ?_
    refine pw_aloadn (aX9_step 23 rfl) rfl ?_
    refine pw_iloadn (aX9_step 24 rfl) rfl ?_
    refine pw_iload (aX9_step 25 rfl) rfl ?_
    refine pw_callS (As := [.int ((h_up FI 48 7 ((FI 48 7) + ((1 : Int32)))) c3 (a2).toInt.toNat)]) (rest := [.int (a3), va_rf (h_rf base (a1)), .ref (base + 48)]) (aX9_step 26 rfl) um_RX9_81 ujX9_shape wc_RX9_81.2.2.2.2 (by decide) rfl rfl (fun d => rX9_shape hkb ((h_up FI 48 7 ((FI 48 7) + ((1 : Int32)))) c3 (a2).toInt.toNat) n sl SH (h_up (h_up FI 48 7 ((FI 48 7) + ((1 : Int32)))) 48 10 ((a2) + ((1 : Int32)))) FL FR hok) (fun v4 n4 sl4 SH4 FI4 FL4 FR4 hok4 _ => ?_)
    show pw _ _ _ _ _ _ _ 44 _ [.int (v4), .int (a3), va_rf (h_rf base (a1)), .ref (base + 48)] _ _
    refine pw_callV (Bs := [va_rf (h_rf base (a1)), .int (a3), .int (v4)]) (L2 := [(0, .ref (base + 48)), (1, va_rf (h_rf base (a1))), (2, .int (a3)), (3, .int (v4))]) (rest := []) (aX9_step 27 rfl) um_RX9_85 ujX9_readOperands wc_RX9_85.2.2.2.2 (by decide) (by decide) rfl (by first | rfl | simp [lv_args, va_cat, va_ci, va_cl, va_cr, va_cn]) (fun d => rX9_readOperands hkb (a1) (a3) (v4) n4 sl4 SH4 FI4 FL4 FR4 hok4) (fun v5 n5 sl5 SH5 FI5 FL5 FR5 hok5 _ => ?_)
    show pw _ _ _ _ _ _ _ 47 _ [.int (v5)] _ _
    refine pw_istore (L2 := [(6, .int (v5)), (5, .int ((h_up FI 48 7 ((FI 48 7) + ((1 : Int32)))) c3 (a2).toInt.toNat)), (0, .ref (base + 48)), (1, va_rf (h_rf base (a1))), (2, .int (a2)), (3, .int (a3)), (4, .int (a4))]) (aX9_step 28 rfl) (by first | rfl | (simp [x_s1, x_s2, va_cat, va_ci, va_cl, va_cr, va_cn]; done) | (simp [x_s1, x_s2, va_cat, va_ci, va_cl, va_cr, va_cn]; decide)) ?_
    refine pw_iload (aX9_step 29 rfl) rfl ?_
    refine pw_ifne (tgt := 62) (aX9_step 30 rfl) (by decide) (fun b6 => ?_) (fun b6 => ?_)
    · skip
      refine pw_aloadn (aX9_step 31 rfl) rfl ?_
      refine pw_iload (aX9_step 32 rfl) rfl ?_
      refine pw_callV (Bs := [.int ((h_up FI 48 7 ((FI 48 7) + ((1 : Int32)))) c3 (a2).toInt.toNat)]) (rest := []) (aX9_step 33 rfl) um_RX9_89 ujX9_check wc_RX9_89.2.2.2.2 (by decide) (by decide) rfl rfl (fun d => rX9_check hkb ((h_up FI 48 7 ((FI 48 7) + ((1 : Int32)))) c3 (a2).toInt.toNat) n5 sl5 SH5 FI5 FL5 FR5 hok5) (fun v7 n7 sl7 SH7 FI7 FL7 FR7 hok7 _ => ?_)
      show pw _ _ _ _ _ _ _ 60 _ [.int (v7)] _ _
      refine pw_istore (L2 := [(6, .int (v7)), (5, .int ((h_up FI 48 7 ((FI 48 7) + ((1 : Int32)))) c3 (a2).toInt.toNat)), (0, .ref (base + 48)), (1, va_rf (h_rf base (a1))), (2, .int (a2)), (3, .int (a3)), (4, .int (a4))]) (aX9_step 34 rfl) (by first | rfl | (simp [x_s1, x_s2, va_cat, va_ci, va_cl, va_cr, va_cn]; done) | (simp [x_s1, x_s2, va_cat, va_ci, va_cl, va_cr, va_cn]; decide)) ?_
      exact pw_Li (L2 := [(0, .ref (base + 48)), (1, va_rf (h_rf base (a1))), (2, .int (a2)), (3, .int (a3)), (4, .int (a4)), (5, .int ((h_up FI 48 7 ((FI 48 7) + ((1 : Int32)))) c3 (a2).toInt.toNat)), (6, .int (v7))]) [6, 5, 0, 1, 2, 3, 4] (rX9_step_62 hkb MX9_perform MX9_step MX9_call a1 a2 a3 a4 ((h_up FI 48 7 ((FI 48 7) + ((1 : Int32)))) c3 (a2).toInt.toNat) (v7) n7 sl7 SH7 FI7 FL7 FR7 hok7 (fun a1 a2 a3 a4 n sl SH FI FL FR ok d => pw_mono (hMX9_perform a1 a2 a3 a4 n sl SH FI FL FR ok d) (by omega)) (fun a1 a2 a3 a4 n sl SH FI FL FR ok d => pw_mono (hMX9_step a1 a2 a3 a4 n sl SH FI FL FR ok d) (by omega)) (fun a1 a2 n sl SH FI FL FR ok d => pw_mono (hMX9_call a1 a2 n sl SH FI FL FR ok d) (by omega)) ) ⟨rfl, rfl, rfl, rfl, rfl, rfl, rfl, trivial⟩
    · skip
      exact pw_Li (L2 := [(0, .ref (base + 48)), (1, va_rf (h_rf base (a1))), (2, .int (a2)), (3, .int (a3)), (4, .int (a4)), (5, .int ((h_up FI 48 7 ((FI 48 7) + ((1 : Int32)))) c3 (a2).toInt.toNat)), (6, .int (v5))]) [6, 5, 0, 1, 2, 3, 4] (rX9_step_62 hkb MX9_perform MX9_step MX9_call a1 a2 a3 a4 ((h_up FI 48 7 ((FI 48 7) + ((1 : Int32)))) c3 (a2).toInt.toNat) (v5) n5 sl5 SH5 FI5 FL5 FR5 hok5 (fun a1 a2 a3 a4 n sl SH FI FL FR ok d => pw_mono (hMX9_perform a1 a2 a3 a4 n sl SH FI FL FR ok d) (by omega)) (fun a1 a2 a3 a4 n sl SH FI FL FR ok d => pw_mono (hMX9_step a1 a2 a3 a4 n sl SH FI FL FR ok d) (by omega)) (fun a1 a2 n sl SH FI FL FR ok d => pw_mono (hMX9_call a1 a2 n sl SH FI FL FR ok d) (by omega)) ) ⟨rfl, rfl, rfl, rfl, rfl, rfl, rfl, trivial⟩
  · skip
    refine pw_bipush (v := (12 : Int32)) (aX9_step 5 rfl) rfl ?_
    exact pw_iret (aX9_step 6 rfl) hok
set_option maxHeartbeats 4000000 in
set_option maxRecDepth 100000 in
theorem rX9_call {sk : xK} {base N d : Nat} (hkb : x_kb sk base) (MX9_perform : Option Nat → Int32 → Int32 → Int32 → Nat → Nat → (Nat → Nat × Nat) → (Nat → Nat → Int32) → (Nat → Nat → Int64) → (Nat → Nat → Option Nat) → Int32 → hS → Prop) (MX9_step : Option Nat → Int32 → Int32 → Int32 → Nat → Nat → (Nat → Nat × Nat) → (Nat → Nat → Int32) → (Nat → Nat → Int64) → (Nat → Nat → Option Nat) → Int32 → hS → Prop) (MX9_call : Int64 → Int32 → Nat → Nat → (Nat → Nat × Nat) → (Nat → Nat → Int32) → (Nat → Nat → Int64) → (Nat → Nat → Option Nat) → Int32 → hS → Prop) (a1 : Int64) (a2 : Int32) (n sl : Nat) (SH : Nat → Nat × Nat) (FI : Nat → Nat → Int32) (FL : Nat → Nat → Int64) (FR : Nat → Nat → Option Nat) (hok : pk n SH FR) (hMX9_perform : ∀ (a1 : Option Nat) (a2 : Int32) (a3 : Int32) (a4 : Int32) (n sl : Nat) (SH : Nat → Nat × Nat) (FI : Nat → Nat → Int32) (FL : Nat → Nat → Int64) (FR : Nat → Nat → Option Nat), pk n SH FR → ∀ d, pw pj_I sk base (N - 1) d none 87 0 [(0, .ref (base + 48)), (1, va_rf (h_rf base (a1))), (2, .int (a2)), (3, .int (a3)), (4, .int (a4))] [] (n, sl, SH, FI, FL, FR) (MX9_perform a1 a2 a3 a4 n sl SH FI FL FR)) (hMX9_step : ∀ (a1 : Option Nat) (a2 : Int32) (a3 : Int32) (a4 : Int32) (n sl : Nat) (SH : Nat → Nat × Nat) (FI : Nat → Nat → Int32) (FL : Nat → Nat → Int64) (FR : Nat → Nat → Option Nat), pk n SH FR → ∀ d, pw pj_I sk base (N - 1) d none 88 0 [(0, .ref (base + 48)), (1, va_rf (h_rf base (a1))), (2, .int (a2)), (3, .int (a3)), (4, .int (a4))] [] (n, sl, SH, FI, FL, FR) (MX9_step a1 a2 a3 a4 n sl SH FI FL FR)) (hMX9_call : ∀ (a1 : Int64) (a2 : Int32) (n sl : Nat) (SH : Nat → Nat × Nat) (FI : Nat → Nat → Int32) (FL : Nat → Nat → Int64) (FR : Nat → Nat → Option Nat), pk n SH FR → ∀ d, pw pj_I sk base (N - 1) d none 97 0 [(0, .ref (base + 48)), (1, .long (a1)), (3, .int (a2))] [] (n, sl, SH, FI, FL, FR) (MX9_call a1 a2 n sl SH FI FL FR)) : pw pj_I sk base N d none 97 0 [(0, .ref (base + 48)), (1, .long (a1)), (3, .int (a2))] [] (n, sl, SH, FI, FL, FR) (RX9_call MX9_perform MX9_step MX9_call a1 a2 n sl SH FI FL FR) := by
  unfold RX9_call
  refine pw_lloadn (aX9_call 0 rfl) rfl ?_
  refine pw_lconst (v := (0 : Int64)) (aX9_call 1 rfl) rfl ?_
  refine pw_lclt (tgt := 26) (aX9_call 2 rfl) (aX9_call 3 rfl) (by decide) (fun b0 => ?_) (fun b0 => ?_)
  · skip
    refine pw_bipush (v := (8 : Int32)) (aX9_call 15 rfl) rfl ?_
    exact pw_iret (aX9_call 16 rfl) hok
  · skip
    refine pw_lloadn (aX9_call 4 rfl) rfl ?_
    refine pw_aloadn (aX9_call 5 rfl) rfl ?_
    refine pw_getr (v := .ref (base + 23)) (aX9_call 6 rfl) uf_RX9_29 un_RX9_29 (congrArg (fun r => va_rf (h_rf base r)) (q48_0 (hok).2.1)) ?_
    refine pw_getr (v := .ref (base + 26)) (aX9_call 7 rfl) uf_RX9_154 un_RX9_154 (congrArg (fun r => va_rf (h_rf base r)) (q23_2 (hok).2.1)) ?_
    refine pw_alenr hkb (c := 26) (aX9_call 8 rfl) ?_
    refine pw_i2l (aX9_call 9 rfl) ?_
    refine pw_lcge (tgt := 26) (aX9_call 10 rfl) (aX9_call 11 rfl) (by decide) (fun b1 => ?_) (fun b1 => ?_)
    · skip
      refine pw_iloadn (aX9_call 12 rfl) rfl ?_
      refine pw_bipush (v := (8 : Int32)) (aX9_call 13 rfl) rfl ?_
      refine pw_iclt (tgt := 29) (aX9_call 14 rfl) (by decide) (fun b2 => ?_) (fun b2 => ?_)
      · skip
        refine pw_aloadn (aX9_call 17 rfl) rfl ?_
        refine pw_getr (v := .ref (base + 23)) (aX9_call 18 rfl) uf_RX9_29 un_RX9_29 (congrArg (fun r => va_rf (h_rf base r)) (q48_0 (hok).2.1)) ?_
        refine pw_getr (v := .ref (base + 26)) (aX9_call 19 rfl) uf_RX9_154 un_RX9_154 (congrArg (fun r => va_rf (h_rf base r)) (q23_2 (hok).2.1)) ?_
        refine pw_lloadn (aX9_call 20 rfl) rfl ?_
        refine pw_l2i (aX9_call 21 rfl) ?_
        refine pw_aaldr (c := 26) (ix := ((a1).toInt32).toInt.toNat) (aX9_call 22 rfl) rfl (fun _ => ?_)
        refine pw_astore (L2 := [(4, va_rf (h_rf base (FR 26 ((a1).toInt32).toInt.toNat))), (0, .ref (base + 48)), (1, .long (a1)), (3, .int (a2))]) (aX9_call 23 rfl) (by first | rfl | (simp [x_s1, x_s2, va_cat, va_ci, va_cl, va_cr, va_cn]; done) | (simp [x_s1, x_s2, va_cat, va_ci, va_cl, va_cr, va_cn]; decide)) ?_
        refine pw_aloadn (aX9_call 24 rfl) rfl ?_
        refine pw_aload (aX9_call 25 rfl) rfl ?_
        refine pw_iconst (v := (0 : Int32)) (aX9_call 26 rfl) rfl ?_
        refine pw_aload (aX9_call 27 rfl) rfl ?_
        refine pw_alen hkb (o := FR 26 ((a1).toInt32).toInt.toNat) (aX9_call 28 rfl) (fun c4 hc4 _ => ?_)
        refine pw_iloadn (aX9_call 29 rfl) rfl ?_
        refine pw_iconst (v := (1 : Int32)) (aX9_call 30 rfl) rfl ?_
        refine pw_iadd (aX9_call 31 rfl) ?_
        refine pw_callV (Bs := [va_rf (h_rf base (FR 26 ((a1).toInt32).toInt.toNat)), .int ((0 : Int32)), .int (Int32.ofNat (SH c4).2), .int ((a2) + ((1 : Int32)))]) (L2 := [(0, .ref (base + 48)), (1, va_rf (h_rf base (FR 26 ((a1).toInt32).toInt.toNat))), (2, .int ((0 : Int32))), (3, .int (Int32.ofNat (SH c4).2)), (4, .int ((a2) + ((1 : Int32))))]) (rest := []) (aX9_call 32 rfl) um_RX9_41 ujX9_perform wc_RX9_41.2.2.2.2 (by decide) (by decide) rfl (by first | rfl | simp [lv_args, va_cat, va_ci, va_cl, va_cr, va_cn]) (fun d => pw_mono (hMX9_perform (FR 26 ((a1).toInt32).toInt.toNat) ((0 : Int32)) (Int32.ofNat (SH c4).2) ((a2) + ((1 : Int32))) n sl SH FI FL FR hok d) (by omega)) (fun v4 n4 sl4 SH4 FI4 FL4 FR4 hok4 _ => ?_)
        show pw _ _ _ _ _ _ _ 54 _ [.int (v4)] _ _
        exact pw_iret (aX9_call 33 rfl) hok4
      · skip
        refine pw_bipush (v := (8 : Int32)) (aX9_call 15 rfl) rfl ?_
        exact pw_iret (aX9_call 16 rfl) hok
    · skip
      refine pw_bipush (v := (8 : Int32)) (aX9_call 15 rfl) rfl ?_
      exact pw_iret (aX9_call 16 rfl) hok
theorem qX9 {sk : xK} {base : Nat} (hkb : x_kb sk base) (N : Nat) : (∀ (a1 : Option Nat) (a2 : Int32) (a3 : Int32) (a4 : Int32) (n sl : Nat) (SH : Nat → Nat × Nat) (FI : Nat → Nat → Int32) (FL : Nat → Nat → Int64) (FR : Nat → Nat → Option Nat), pk n SH FR → ∀ d, pw pj_I sk base N d none 87 0 [(0, .ref (base + 48)), (1, va_rf (h_rf base (a1))), (2, .int (a2)), (3, .int (a3)), (4, .int (a4))] [] (n, sl, SH, FI, FL, FR) (QX9 (N + 1) 0 a1 a2 a3 a4 0 n sl SH FI FL FR)) ∧ (∀ (a1 : Option Nat) (a2 : Int32) (a3 : Int32) (a4 : Int32) (n sl : Nat) (SH : Nat → Nat × Nat) (FI : Nat → Nat → Int32) (FL : Nat → Nat → Int64) (FR : Nat → Nat → Option Nat), pk n SH FR → ∀ d, pw pj_I sk base N d none 88 0 [(0, .ref (base + 48)), (1, va_rf (h_rf base (a1))), (2, .int (a2)), (3, .int (a3)), (4, .int (a4))] [] (n, sl, SH, FI, FL, FR) (QX9 (N + 1) 1 a1 a2 a3 a4 0 n sl SH FI FL FR)) ∧ (∀ (a1 : Int64) (a2 : Int32) (n sl : Nat) (SH : Nat → Nat × Nat) (FI : Nat → Nat → Int32) (FL : Nat → Nat → Int64) (FR : Nat → Nat → Option Nat), pk n SH FR → ∀ d, pw pj_I sk base N d none 97 0 [(0, .ref (base + 48)), (1, .long (a1)), (3, .int (a2))] [] (n, sl, SH, FI, FL, FR) (QX9 (N + 1) 2 none a2 0 0 a1 n sl SH FI FL FR)) := by
  induction N with
  | zero => exact ⟨by intros; exact pw_0, by intros; exact pw_0, by intros; exact pw_0⟩
  | succ N ih => exact ⟨fun a1 a2 a3 a4 n sl SH FI FL FR hok d => rX9_perform (N := N + 1) hkb _ _ _ a1 a2 a3 a4 n sl SH FI FL FR hok ih.1 ih.2.1 ih.2.2, fun a1 a2 a3 a4 n sl SH FI FL FR hok d => rX9_step (N := N + 1) hkb _ _ _ a1 a2 a3 a4 n sl SH FI FL FR hok ih.1 ih.2.1 ih.2.2, fun a1 a2 n sl SH FI FL FR hok d => rX9_call (N := N + 1) hkb _ _ _ a1 a2 n sl SH FI FL FR hok ih.1 ih.2.1 ih.2.2⟩
theorem rX9_perform_ {sk : xK} {base N d : Nat} (hkb : x_kb sk base) (a1 : Option Nat) (a2 : Int32) (a3 : Int32) (a4 : Int32) (n sl : Nat) (SH : Nat → Nat × Nat) (FI : Nat → Nat → Int32) (FL : Nat → Nat → Int64) (FR : Nat → Nat → Option Nat) (hok : pk n SH FR) : pw pj_I sk base N d none 87 0 [(0, .ref (base + 48)), (1, va_rf (h_rf base (a1))), (2, .int (a2)), (3, .int (a3)), (4, .int (a4))] [] (n, sl, SH, FI, FL, FR) (RX9_perform_ a1 a2 a3 a4 n sl SH FI FL FR) := pw_cons ((qX9 hkb N).1 a1 a2 a3 a4 n sl SH FI FL FR hok d) (fun _ _ h => ⟨_, h⟩)
theorem rX9_step_ {sk : xK} {base N d : Nat} (hkb : x_kb sk base) (a1 : Option Nat) (a2 : Int32) (a3 : Int32) (a4 : Int32) (n sl : Nat) (SH : Nat → Nat × Nat) (FI : Nat → Nat → Int32) (FL : Nat → Nat → Int64) (FR : Nat → Nat → Option Nat) (hok : pk n SH FR) : pw pj_I sk base N d none 88 0 [(0, .ref (base + 48)), (1, va_rf (h_rf base (a1))), (2, .int (a2)), (3, .int (a3)), (4, .int (a4))] [] (n, sl, SH, FI, FL, FR) (RX9_step_ a1 a2 a3 a4 n sl SH FI FL FR) := pw_cons ((qX9 hkb N).2.1 a1 a2 a3 a4 n sl SH FI FL FR hok d) (fun _ _ h => ⟨_, h⟩)
theorem rX9_call_ {sk : xK} {base N d : Nat} (hkb : x_kb sk base) (a1 : Int64) (a2 : Int32) (n sl : Nat) (SH : Nat → Nat × Nat) (FI : Nat → Nat → Int32) (FL : Nat → Nat → Int64) (FR : Nat → Nat → Option Nat) (hok : pk n SH FR) : pw pj_I sk base N d none 97 0 [(0, .ref (base + 48)), (1, .long (a1)), (3, .int (a2))] [] (n, sl, SH, FI, FL, FR) (RX9_call_ a1 a2 n sl SH FI FL FR) := pw_cons ((qX9 hkb N).2.2 a1 a2 n sl SH FI FL FR hok d) (fun _ _ h => ⟨_, h⟩)
set_option maxHeartbeats 4000000 in
set_option maxRecDepth 100000 in
theorem rX9_start {sk : xK} {base N d : Nat} (hkb : x_kb sk base) (a1 : Option Nat) (a2 : Int32) (a3 : Int32) (a4 : Int32) (n sl : Nat) (SH : Nat → Nat × Nat) (FI : Nat → Nat → Int32) (FL : Nat → Nat → Int64) (FR : Nat → Nat → Option Nat) (hok : pk n SH FR)  : pw pj_I sk base N d none 85 0 [(0, .ref (base + 48)), (1, va_rf (h_rf base (a1))), (2, .int (a2)), (3, .int (a3)), (4, .int (a4))] [] (n, sl, SH, FI, FL, FR) (RX9_start a1 a2 a3 a4 n sl SH FI FL FR) := by
  unfold RX9_start
  refine pw_aloadn (aX9_start 0 rfl) rfl ?_
  refine pw_iload (aX9_start 1 rfl) rfl ?_
  refine pw_iconst (v := (0 : Int32)) (aX9_start 2 rfl) rfl ?_
  refine pw_callV (Bs := [.int (a4), .int ((0 : Int32))]) (rest := []) (aX9_start 3 rfl) um_RX9_37 ujX9_reset wc_RX9_37.2.2.2.2 (by decide) (by decide) rfl rfl (fun d => rX9_reset hkb (a4) ((0 : Int32)) n sl SH FI FL FR hok) (fun v0 n0 sl0 SH0 FI0 FL0 FR0 hok0 _ => ?_)
  show pw _ _ _ _ _ _ _ 7 _ [] _ _
  refine pw_aloadn (aX9_start 4 rfl) rfl ?_
  refine pw_aloadn (aX9_start 5 rfl) rfl ?_
  refine pw_iloadn (aX9_start 6 rfl) rfl ?_
  refine pw_iloadn (aX9_start 7 rfl) rfl ?_
  refine pw_iconst (v := (0 : Int32)) (aX9_start 8 rfl) rfl ?_
  refine pw_callV (Bs := [va_rf (h_rf base (a1)), .int (a2), .int (a3), .int ((0 : Int32))]) (L2 := [(0, .ref (base + 48)), (1, va_rf (h_rf base (a1))), (2, .int (a2)), (3, .int (a3)), (4, .int ((0 : Int32)))]) (rest := []) (aX9_start 9 rfl) um_RX9_41 ujX9_perform wc_RX9_41.2.2.2.2 (by decide) (by decide) rfl (by first | rfl | simp [lv_args, va_cat, va_ci, va_cl, va_cr, va_cn]) (fun d => rX9_perform_ hkb (a1) (a2) (a3) ((0 : Int32)) n0 sl0 SH0 FI0 FL0 FR0 hok0) (fun v1 n1 sl1 SH1 FI1 FL1 FR1 hok1 _ => ?_)
  show pw _ _ _ _ _ _ _ 15 _ [.int (v1)] _ _
  refine pw_istore (L2 := [(5, .int (v1)), (0, .ref (base + 48)), (1, va_rf (h_rf base (a1))), (2, .int (a2)), (3, .int (a3)), (4, .int (a4))]) (aX9_start 10 rfl) (by first | rfl | (simp [x_s1, x_s2, va_cat, va_ci, va_cl, va_cr, va_cn]; done) | (simp [x_s1, x_s2, va_cat, va_ci, va_cl, va_cr, va_cn]; decide)) ?_
  refine pw_iload (aX9_start 11 rfl) rfl ?_
  refine pw_ifne (tgt := 35) (aX9_start 12 rfl) (by decide) (fun b2 => ?_) (fun b2 => ?_)
  · skip
    refine pw_aloadn (aX9_start 13 rfl) rfl ?_
    refine pw_callV (Bs := []) (rest := []) (aX9_start 14 rfl) um_RX9_45 ujX9_settle wc_RX9_45.2.2.2.2 (by decide) (by decide) rfl rfl (fun d => rX9_settle hkb  n1 sl1 SH1 FI1 FL1 FR1 hok1) (fun v3 n3 sl3 SH3 FI3 FL3 FR3 hok3 _ => ?_)
    show pw _ _ _ _ _ _ _ 26 _ [.int (v3)] _ _
    refine pw_istore (L2 := [(5, .int (v3)), (0, .ref (base + 48)), (1, va_rf (h_rf base (a1))), (2, .int (a2)), (3, .int (a3)), (4, .int (a4))]) (aX9_start 15 rfl) (by first | rfl | (simp [x_s1, x_s2, va_cat, va_ci, va_cl, va_cr, va_cn]; done) | (simp [x_s1, x_s2, va_cat, va_ci, va_cl, va_cr, va_cn]; decide)) ?_
    refine pw_aloadn (aX9_start 16 rfl) rfl ?_
    refine pw_iloadn (aX9_start 17 rfl) rfl ?_
    refine pw_iloadn (aX9_start 18 rfl) rfl ?_
    refine pw_isub (aX9_start 19 rfl) ?_
    refine pw_putri (aX9_start 20 rfl) uf_RX9_49 (fun _ _ _ => rfl) (fun t5 => ?_)
    refine pw_iload (aX9_start 21 rfl) rfl ?_
    exact pw_iret (aX9_start 22 rfl) hok3
  · skip
    refine pw_iload (aX9_start 21 rfl) rfl ?_
    exact pw_iret (aX9_start 22 rfl) hok1
set_option maxHeartbeats 4000000 in
set_option maxRecDepth 100000 in
theorem rX11_runBytes {sk : xK} {base N d : Nat} (hkb : x_kb sk base) (a1 : Option Nat) (a2 : Int32) (a3 : Int32) (a4 : Int32) (n sl : Nat) (SH : Nat → Nat × Nat) (FI : Nat → Nat → Int32) (FL : Nat → Nat → Int64) (FR : Nat → Nat → Option Nat) (hok : pk n SH FR)  : pw pj_I sk base N d none 134 0 [(0, .ref (base + 0)), (1, va_rf (h_rf base (a1))), (2, .int (a2)), (3, .int (a3)), (4, .int (a4))] [] (n, sl, SH, FI, FL, FR) (RX11_runBytes a1 a2 a3 a4 n sl SH FI FL FR) := by
  unfold RX11_runBytes
  refine pw_aloadn (aX11_runBytes 0 rfl) rfl ?_
  refine pw_getr (v := .ref (base + 48)) (aX11_runBytes 1 rfl) uf_RX11_44 un_RX11_44 (congrArg (fun r => va_rf (h_rf base r)) (q0_1 (hok).2.1)) ?_
  refine pw_aloadn (aX11_runBytes 2 rfl) rfl ?_
  refine pw_iloadn (aX11_runBytes 3 rfl) rfl ?_
  refine pw_iloadn (aX11_runBytes 4 rfl) rfl ?_
  refine pw_iload (aX11_runBytes 5 rfl) rfl ?_
  refine pw_callV (Bs := [va_rf (h_rf base (a1)), .int (a2), .int (a3), .int (a4)]) (L2 := [(0, .ref (base + 48)), (1, va_rf (h_rf base (a1))), (2, .int (a2)), (3, .int (a3)), (4, .int (a4))]) (rest := []) (aX11_runBytes 6 rfl) um_RX11_140 ujX9_start wc_RX11_140.2.2.2.2 (by decide) (by decide) rfl (by first | rfl | simp [lv_args, va_cat, va_ci, va_cl, va_cr, va_cn]) (fun d => rX9_start hkb (a1) (a2) (a3) (a4) n sl SH FI FL FR hok) (fun v0 n0 sl0 SH0 FI0 FL0 FR0 hok0 _ => ?_)
  show pw _ _ _ _ _ _ _ 12 _ [.int (v0)] _ _
  refine pw_istore (L2 := [(5, .int (v0)), (0, .ref (base + 0)), (1, va_rf (h_rf base (a1))), (2, .int (a2)), (3, .int (a3)), (4, .int (a4))]) (aX11_runBytes 7 rfl) (by first | rfl | (simp [x_s1, x_s2, va_cat, va_ci, va_cl, va_cr, va_cn]; done) | (simp [x_s1, x_s2, va_cat, va_ci, va_cl, va_cr, va_cn]; decide)) ?_
  refine pw_iload (aX11_runBytes 8 rfl) rfl ?_
  refine pw_ifne (tgt := 33) (aX11_runBytes 9 rfl) (by decide) (fun b1 => ?_) (fun b1 => ?_)
  · skip
    refine pw_aloadn (aX11_runBytes 10 rfl) rfl ?_
    refine pw_getr (v := .ref (base + 1)) (aX11_runBytes 11 rfl) uf_RX11_10 un_RX11_10 (congrArg (fun r => va_rf (h_rf base r)) (q0_5 (hok0).2.1)) ?_
    refine pw_aloadn (aX11_runBytes 12 rfl) rfl ?_
    refine pw_getr (v := .ref (base + 48)) (aX11_runBytes 13 rfl) uf_RX11_44 un_RX11_44 (congrArg (fun r => va_rf (h_rf base r)) (q0_1 (hok0).2.1)) ?_
    refine pw_getr (v := .ref (base + 72)) (aX11_runBytes 14 rfl) uf_RX11_143 un_RX11_143 (congrArg (fun r => va_rf (h_rf base r)) (q48_4 (hok0).2.1)) ?_
    refine pw_callV (Bs := [.ref (base + 72)]) (rest := []) (aX11_runBytes 15 rfl) um_RX11_146 ujX8_take wc_RX11_146.2.2.2.2 (by decide) (by decide) rfl rfl (fun d => rX8_take hkb 1 (some 72) n0 sl0 SH0 FI0 FL0 FR0 hok0) (fun v2 n2 sl2 SH2 FI2 FL2 FR2 hok2 _ => ?_)
    show pw _ _ _ _ _ _ _ 33 _ [] _ _
    refine pw_aloadn (aX11_runBytes 16 rfl) rfl ?_
    refine pw_iload (aX11_runBytes 17 rfl) rfl ?_
    refine pw_aloadn (aX11_runBytes 18 rfl) rfl ?_
    refine pw_getr (v := .ref (base + 48)) (aX11_runBytes 19 rfl) uf_RX11_44 un_RX11_44 (congrArg (fun r => va_rf (h_rf base r)) (q0_1 (hok2).2.1)) ?_
    refine pw_getr (v := .int (FI2 48 9)) (aX11_runBytes 20 rfl) uf_RX11_150 un_RX11_150 rfl ?_
    refine pw_aloadn (aX11_runBytes 21 rfl) rfl ?_
    refine pw_getr (v := .ref (base + 48)) (aX11_runBytes 22 rfl) uf_RX11_44 un_RX11_44 (congrArg (fun r => va_rf (h_rf base r)) (q0_1 (hok2).2.1)) ?_
    refine pw_getr (v := .int (FI2 48 7)) (aX11_runBytes 23 rfl) uf_RX11_153 un_RX11_153 rfl ?_
    refine pw_aloadn (aX11_runBytes 24 rfl) rfl ?_
    refine pw_getr (v := .ref (base + 48)) (aX11_runBytes 25 rfl) uf_RX11_44 un_RX11_44 (congrArg (fun r => va_rf (h_rf base r)) (q0_1 (hok2).2.1)) ?_
    refine pw_getr (v := .int (FI2 48 8)) (aX11_runBytes 26 rfl) uf_RX11_156 un_RX11_156 rfl ?_
    refine pw_callV (Bs := [.int (v0), .int (FI2 48 9), .int (FI2 48 7), .int (FI2 48 8)]) (rest := []) (aX11_runBytes 27 rfl) um_RX11_159 ujX11_tell wc_RX11_159.2.2.2.2 (by decide) (by decide) rfl rfl (fun d => rX11_tell hkb (v0) (FI2 48 9) (FI2 48 7) (FI2 48 8) n2 sl2 SH2 FI2 FL2 FR2 hok2) (fun v3 n3 sl3 SH3 FI3 FL3 FR3 hok3 _ => ?_)
    show pw _ _ _ _ _ _ _ 60 _ [] _ _
    refine pw_iload (aX11_runBytes 28 rfl) rfl ?_
    exact pw_iret (aX11_runBytes 29 rfl) hok3
  · skip
    refine pw_aloadn (aX11_runBytes 16 rfl) rfl ?_
    refine pw_iload (aX11_runBytes 17 rfl) rfl ?_
    refine pw_aloadn (aX11_runBytes 18 rfl) rfl ?_
    refine pw_getr (v := .ref (base + 48)) (aX11_runBytes 19 rfl) uf_RX11_44 un_RX11_44 (congrArg (fun r => va_rf (h_rf base r)) (q0_1 (hok0).2.1)) ?_
    refine pw_getr (v := .int (FI0 48 9)) (aX11_runBytes 20 rfl) uf_RX11_150 un_RX11_150 rfl ?_
    refine pw_aloadn (aX11_runBytes 21 rfl) rfl ?_
    refine pw_getr (v := .ref (base + 48)) (aX11_runBytes 22 rfl) uf_RX11_44 un_RX11_44 (congrArg (fun r => va_rf (h_rf base r)) (q0_1 (hok0).2.1)) ?_
    refine pw_getr (v := .int (FI0 48 7)) (aX11_runBytes 23 rfl) uf_RX11_153 un_RX11_153 rfl ?_
    refine pw_aloadn (aX11_runBytes 24 rfl) rfl ?_
    refine pw_getr (v := .ref (base + 48)) (aX11_runBytes 25 rfl) uf_RX11_44 un_RX11_44 (congrArg (fun r => va_rf (h_rf base r)) (q0_1 (hok0).2.1)) ?_
    refine pw_getr (v := .int (FI0 48 8)) (aX11_runBytes 26 rfl) uf_RX11_156 un_RX11_156 rfl ?_
    refine pw_callV (Bs := [.int (v0), .int (FI0 48 9), .int (FI0 48 7), .int (FI0 48 8)]) (rest := []) (aX11_runBytes 27 rfl) um_RX11_159 ujX11_tell wc_RX11_159.2.2.2.2 (by decide) (by decide) rfl rfl (fun d => rX11_tell hkb (v0) (FI0 48 9) (FI0 48 7) (FI0 48 8) n0 sl0 SH0 FI0 FL0 FR0 hok0) (fun v4 n4 sl4 SH4 FI4 FL4 FR4 hok4 _ => ?_)
    show pw _ _ _ _ _ _ _ 60 _ [] _ _
    refine pw_iload (aX11_runBytes 28 rfl) rfl ?_
    exact pw_iret (aX11_runBytes 29 rfl) hok4
set_option maxHeartbeats 4000000 in
set_option maxRecDepth 100000 in
theorem rX11_endless {sk : xK} {base N d : Nat} (hkb : x_kb sk base) (a1 : Int32) (n sl : Nat) (SH : Nat → Nat × Nat) (FI : Nat → Nat → Int32) (FL : Nat → Nat → Int64) (FR : Nat → Nat → Option Nat) (hok : pk n SH FR)  : pw pj_I sk base N d none 136 0 [(0, .ref (base + 0)), (1, .int (a1))] [] (n, sl, SH, FI, FL, FR) (RX11_endless a1 n sl SH FI FL FR) := by
  unfold RX11_endless
  refine pw_aloadn (aX11_endless 0 rfl) rfl ?_
  refine pw_iconst (v := (1 : Int32)) (aX11_endless 1 rfl) rfl ?_
  refine pw_iloadn (aX11_endless 2 rfl) rfl ?_
  refine pw_iconst (v := (0 : Int32)) (aX11_endless 3 rfl) rfl ?_
  refine pw_iconst (v := (0 : Int32)) (aX11_endless 4 rfl) rfl ?_
  refine pw_callV (Bs := [.int ((1 : Int32)), .int (a1), .int ((0 : Int32)), .int ((0 : Int32))]) (rest := []) (aX11_endless 5 rfl) um_RX11_159 ujX11_tell wc_RX11_159.2.2.2.2 (by decide) (by decide) rfl rfl (fun d => rX11_tell hkb ((1 : Int32)) (a1) ((0 : Int32)) ((0 : Int32)) n sl SH FI FL FR hok) (fun v0 n0 sl0 SH0 FI0 FL0 FR0 hok0 _ => ?_)
  show pw _ _ _ _ _ _ _ 8 _ [] _ _
  refine pw_iconst (v := (1 : Int32)) (aX11_endless 6 rfl) rfl ?_
  exact pw_iret (aX11_endless 7 rfl) hok0
set_option maxHeartbeats 4000000 in
set_option maxRecDepth 100000 in
theorem rX11_search_195 {sk : xK} {base N d : Nat} {K9 : Int64 → Int32 → Int32 → Nat → Nat → (Nat → Nat × Nat) → (Nat → Nat → Int32) → (Nat → Nat → Int64) → (Nat → Nat → Option Nat) → Int32 → hS → Prop} (hkb : x_kb sk base) (a1 : Option Nat) (a2 : Int64) (a3 : Int64) (a4 : Int32) (l7l : Int64) (l9i : Int32) (l10i : Int32) (l11i : Int32) (l12l : Int64) (l14l : Int64) (l16i : Int32) (l17i : Int32) (n sl : Nat) (SH : Nat → Nat × Nat) (FI : Nat → Nat → Int32) (FL : Nat → Nat → Int64) (FR : Nat → Nat → Option Nat) (hok : pk n SH FR)  (hK9 : ∀ (l7l : Int64) (l9i : Int32) (l10i : Int32) (l11i : Int32) (l12l : Int64) (l14l : Int64) (l16i : Int32) (l17i : Int32) (n sl : Nat) (SH : Nat → Nat × Nat) (FI : Nat → Nat → Int32) (FL : Nat → Nat → Int64) (FR : Nat → Nat → Option Nat), pk n SH FR → pw pj_I sk base N d none 135 9 [(0, .ref (base + 0)), (1, va_rf (h_rf base (a1))), (2, .long (a2)), (4, .long (a3)), (6, .int (a4)), (7, .long (l7l)), (9, .int (l9i)), (10, .int (l10i)), (11, .int (l11i)), (12, .long (l12l)), (14, .long (l14l)), (16, .int (l16i)), (17, .int (l17i))] [] (n, sl, SH, FI, FL, FR) (K9 l7l l9i l10i n sl SH FI FL FR)) : pw pj_I sk base N d none 135 195 [(0, .ref (base + 0)), (1, va_rf (h_rf base (a1))), (2, .long (a2)), (4, .long (a3)), (6, .int (a4)), (7, .long (l7l)), (9, .int (l9i)), (10, .int (l10i)), (11, .int (l11i)), (12, .long (l12l)), (14, .long (l14l)), (16, .int (l16i)), (17, .int (l17i))] [] (n, sl, SH, FI, FL, FR) (RX11_search_195 K9 a1 a2 a3 a4 l7l l9i l10i n sl SH FI FL FR) := by
  unfold RX11_search_195
  refine pw_iinc (v := (l10i) + (1 : Int32)) (L2 := [(10, .int ((l10i) + (1 : Int32))), (0, .ref (base + 0)), (1, va_rf (h_rf base (a1))), (2, .long (a2)), (4, .long (a3)), (6, .int (a4)), (7, .long (l7l)), (9, .int (l9i)), (11, .int (l11i)), (12, .long (l12l)), (14, .long (l14l)), (16, .int (l16i)), (17, .int (l17i))]) (aX11_search 103 rfl) rfl rfl (by first | rfl | (simp [x_s1, x_s2, va_cat, va_ci, va_cl, va_cr, va_cn]; done) | (simp [x_s1, x_s2, va_cat, va_ci, va_cl, va_cr, va_cn]; decide)) ?_
  refine pw_goto (tgt := 9) (aX11_search 104 rfl) (by decide) ?_
  exact pw_Li (L2 := [(0, .ref (base + 0)), (1, va_rf (h_rf base (a1))), (2, .long (a2)), (4, .long (a3)), (6, .int (a4)), (7, .long (l7l)), (9, .int (l9i)), (10, .int ((l10i) + (1 : Int32))), (11, .int (l11i)), (12, .long (l12l)), (14, .long (l14l)), (16, .int (l16i)), (17, .int (l17i))]) [7, 0, 1, 2, 3, 4, 5, 6, 8, 9, 10, 11, 12] (hK9 (l7l) (l9i) ((l10i) + (1 : Int32)) (l11i) (l12l) (l14l) (l16i) (l17i) n sl SH FI FL FR hok) ⟨rfl, rfl, rfl, rfl, rfl, rfl, rfl, rfl, rfl, rfl, rfl, rfl, rfl, trivial⟩
set_option maxHeartbeats 4000000 in
set_option maxRecDepth 100000 in
theorem rX11_search_188 {sk : xK} {base N d : Nat} {K9 : Int64 → Int32 → Int32 → Nat → Nat → (Nat → Nat × Nat) → (Nat → Nat → Int32) → (Nat → Nat → Int64) → (Nat → Nat → Option Nat) → Int32 → hS → Prop} (hkb : x_kb sk base) (a1 : Option Nat) (a2 : Int64) (a3 : Int64) (a4 : Int32) (l7l : Int64) (l10i : Int32) (l16i : Int32) (l17i : Int32) (l9i : Int32) (l11i : Int32) (l12l : Int64) (l14l : Int64) (n sl : Nat) (SH : Nat → Nat × Nat) (FI : Nat → Nat → Int32) (FL : Nat → Nat → Int64) (FR : Nat → Nat → Option Nat) (hok : pk n SH FR)  (hK9 : ∀ (l7l : Int64) (l9i : Int32) (l10i : Int32) (l11i : Int32) (l12l : Int64) (l14l : Int64) (l16i : Int32) (l17i : Int32) (n sl : Nat) (SH : Nat → Nat × Nat) (FI : Nat → Nat → Int32) (FL : Nat → Nat → Int64) (FR : Nat → Nat → Option Nat), pk n SH FR → pw pj_I sk base N d none 135 9 [(0, .ref (base + 0)), (1, va_rf (h_rf base (a1))), (2, .long (a2)), (4, .long (a3)), (6, .int (a4)), (7, .long (l7l)), (9, .int (l9i)), (10, .int (l10i)), (11, .int (l11i)), (12, .long (l12l)), (14, .long (l14l)), (16, .int (l16i)), (17, .int (l17i))] [] (n, sl, SH, FI, FL, FR) (K9 l7l l9i l10i n sl SH FI FL FR)) : pw pj_I sk base N d none 135 188 [(0, .ref (base + 0)), (1, va_rf (h_rf base (a1))), (2, .long (a2)), (4, .long (a3)), (6, .int (a4)), (7, .long (l7l)), (9, .int (l9i)), (10, .int (l10i)), (11, .int (l11i)), (12, .long (l12l)), (14, .long (l14l)), (16, .int (l16i)), (17, .int (l17i))] [] (n, sl, SH, FI, FL, FR) (RX11_search_188 K9 a1 a2 a3 a4 l7l l10i l16i l17i n sl SH FI FL FR) := by
  unfold RX11_search_188
  refine pw_iload (aX11_search 99 rfl) rfl ?_
  refine pw_iload (aX11_search 100 rfl) rfl ?_
  refine pw_iadd (aX11_search 101 rfl) ?_
  refine pw_istore (L2 := [(9, .int ((l17i) + (l16i))), (0, .ref (base + 0)), (1, va_rf (h_rf base (a1))), (2, .long (a2)), (4, .long (a3)), (6, .int (a4)), (7, .long (l7l)), (10, .int (l10i)), (11, .int (l11i)), (12, .long (l12l)), (14, .long (l14l)), (16, .int (l16i)), (17, .int (l17i))]) (aX11_search 102 rfl) (by first | rfl | (simp [x_s1, x_s2, va_cat, va_ci, va_cl, va_cr, va_cn]; done) | (simp [x_s1, x_s2, va_cat, va_ci, va_cl, va_cr, va_cn]; decide)) ?_
  exact pw_Li (L2 := [(0, .ref (base + 0)), (1, va_rf (h_rf base (a1))), (2, .long (a2)), (4, .long (a3)), (6, .int (a4)), (7, .long (l7l)), (9, .int ((l17i) + (l16i))), (10, .int (l10i)), (11, .int (l11i)), (12, .long (l12l)), (14, .long (l14l)), (16, .int (l16i)), (17, .int (l17i))]) [6, 0, 1, 2, 3, 4, 5, 7, 8, 9, 10, 11, 12] (rX11_search_195 hkb a1 a2 a3 a4 (l7l) ((l17i) + (l16i)) (l10i) (l11i) (l12l) (l14l) (l16i) (l17i) n sl SH FI FL FR hok  hK9) ⟨rfl, rfl, rfl, rfl, rfl, rfl, rfl, rfl, rfl, rfl, rfl, rfl, rfl, trivial⟩
set_option maxHeartbeats 4000000 in
set_option maxRecDepth 100000 in
theorem rX11_search_77 {sk : xK} {base N d : Nat} {K9 : Int64 → Int32 → Int32 → Nat → Nat → (Nat → Nat × Nat) → (Nat → Nat → Int32) → (Nat → Nat → Int64) → (Nat → Nat → Option Nat) → Int32 → hS → Prop} (hkb : x_kb sk base) (a1 : Option Nat) (a2 : Int64) (a3 : Int64) (a4 : Int32) (l7l : Int64) (l9i : Int32) (l10i : Int32) (l11i : Int32) (l12l : Int64) (l14l : Int64) (l16i : Int32) (l17i : Int32) (n sl : Nat) (SH : Nat → Nat × Nat) (FI : Nat → Nat → Int32) (FL : Nat → Nat → Int64) (FR : Nat → Nat → Option Nat) (hok : pk n SH FR)  (hK9 : ∀ (l7l : Int64) (l9i : Int32) (l10i : Int32) (l11i : Int32) (l12l : Int64) (l14l : Int64) (l16i : Int32) (l17i : Int32) (n sl : Nat) (SH : Nat → Nat × Nat) (FI : Nat → Nat → Int32) (FL : Nat → Nat → Int64) (FR : Nat → Nat → Option Nat), pk n SH FR → pw pj_I sk base N d none 135 9 [(0, .ref (base + 0)), (1, va_rf (h_rf base (a1))), (2, .long (a2)), (4, .long (a3)), (6, .int (a4)), (7, .long (l7l)), (9, .int (l9i)), (10, .int (l10i)), (11, .int (l11i)), (12, .long (l12l)), (14, .long (l14l)), (16, .int (l16i)), (17, .int (l17i))] [] (n, sl, SH, FI, FL, FR) (K9 l7l l9i l10i n sl SH FI FL FR)) : pw pj_I sk base N d none 135 77 [(0, .ref (base + 0)), (1, va_rf (h_rf base (a1))), (2, .long (a2)), (4, .long (a3)), (6, .int (a4)), (7, .long (l7l)), (9, .int (l9i)), (10, .int (l10i)), (11, .int (l11i)), (12, .long (l12l)), (14, .long (l14l)), (16, .int (l16i)), (17, .int (l17i))] [] (n, sl, SH, FI, FL, FR) (RX11_search_77 K9 a1 a2 a3 a4 l7l l9i l10i l11i l12l l14l n sl SH FI FL FR) := by
  unfold RX11_search_77
  refine pw_lload (aX11_search 42 rfl) rfl ?_
  refine pw_ldc2 (v := (-1 : Int64)) (aX11_search 43 rfl) uk_RX11_171 ?_
  refine pw_lcne (tgt := 96) (aX11_search 44 rfl) (aX11_search 45 rfl) (by decide) (fun b0 => ?_) (fun b0 => ?_)
  · skip
    refine pw_lload (aX11_search 46 rfl) rfl ?_
    refine pw_lstore (L2 := [(7, .long (l14l)), (0, .ref (base + 0)), (1, va_rf (h_rf base (a1))), (2, .long (a2)), (4, .long (a3)), (6, .int (a4)), (9, .int (l9i)), (10, .int (l10i)), (11, .int (l11i)), (12, .long (l12l)), (14, .long (l14l)), (16, .int (l16i)), (17, .int (l17i))]) (aX11_search 47 rfl) (by first | rfl | (simp [x_s1, x_s2, va_cat, va_ci, va_cl, va_cr, va_cn]; done) | (simp [x_s1, x_s2, va_cat, va_ci, va_cl, va_cr, va_cn]; decide)) ?_
    refine pw_iinc (v := (l9i) + (16 : Int32)) (L2 := [(9, .int ((l9i) + (16 : Int32))), (7, .long (l14l)), (0, .ref (base + 0)), (1, va_rf (h_rf base (a1))), (2, .long (a2)), (4, .long (a3)), (6, .int (a4)), (10, .int (l10i)), (11, .int (l11i)), (12, .long (l12l)), (14, .long (l14l)), (16, .int (l16i)), (17, .int (l17i))]) (aX11_search 48 rfl) rfl rfl (by first | rfl | (simp [x_s1, x_s2, va_cat, va_ci, va_cl, va_cr, va_cn]; done) | (simp [x_s1, x_s2, va_cat, va_ci, va_cl, va_cr, va_cn]; decide)) ?_
    refine pw_goto (tgt := 195) (aX11_search 49 rfl) (by decide) ?_
    exact pw_Li (L2 := [(0, .ref (base + 0)), (1, va_rf (h_rf base (a1))), (2, .long (a2)), (4, .long (a3)), (6, .int (a4)), (7, .long (l14l)), (9, .int ((l9i) + (16 : Int32))), (10, .int (l10i)), (11, .int (l11i)), (12, .long (l12l)), (14, .long (l14l)), (16, .int (l16i)), (17, .int (l17i))]) [6, 5, 0, 1, 2, 3, 4, 7, 8, 9, 10, 11, 12] (rX11_search_195 hkb a1 a2 a3 a4 (l14l) ((l9i) + (16 : Int32)) (l10i) (l11i) (l12l) (l14l) (l16i) (l17i) n sl SH FI FL FR hok  hK9) ⟨rfl, rfl, rfl, rfl, rfl, rfl, rfl, rfl, rfl, rfl, rfl, rfl, rfl, trivial⟩
  · skip
    refine pw_iload (aX11_search 50 rfl) rfl ?_
    refine pw_bipush (v := (18 : Int32)) (aX11_search 51 rfl) rfl ?_
    refine pw_icge (tgt := 110) (aX11_search 52 rfl) (by decide) (fun b1 => ?_) (fun b1 => ?_)
    · skip
      refine pw_aloadn (aX11_search 53 rfl) rfl ?_
      refine pw_iload (aX11_search 54 rfl) rfl ?_
      refine pw_callV (Bs := [.int (l9i)]) (rest := []) (aX11_search 55 rfl) um_RX11_163 ujX11_endless wc_RX11_163.2.2.2.2 (by decide) (by decide) rfl rfl (fun d => rX11_endless hkb (l9i) n sl SH FI FL FR hok) (fun v2 n2 sl2 SH2 FI2 FL2 FR2 hok2 _ => ?_)
      show pw _ _ _ _ _ _ _ 109 _ [.int (v2)] _ _
      exact pw_iret (aX11_search 56 rfl) hok2
    · skip
      refine pw_aloadn (aX11_search 57 rfl) rfl ?_
      refine pw_iload (aX11_search 58 rfl) rfl ?_
      refine pw_bipush (v := (16 : Int32)) (aX11_search 59 rfl) rfl ?_
      refine pw_iadd (aX11_search 60 rfl) ?_
      refine pw_iconst (v := (2 : Int32)) (aX11_search 61 rfl) rfl ?_
      refine pw_callS (As := [va_rf (h_rf base (a1)), .int ((l9i) + ((16 : Int32))), .int ((2 : Int32))]) (L2 := [(0, va_rf (h_rf base (a1))), (1, .int ((l9i) + ((16 : Int32)))), (2, .int ((2 : Int32)))]) (rest := []) (aX11_search 62 rfl) um_RX11_167 ujX11_number wc_RX11_167.2.2.2.2 (by decide) rfl (by first | rfl | simp [lv_args, va_cat, va_ci, va_cl, va_cr, va_cn]) (fun d => rX11_number hkb (a1) ((l9i) + ((16 : Int32))) ((2 : Int32)) n sl SH FI FL FR hok) (fun v3 n3 sl3 SH3 FI3 FL3 FR3 hok3 _ => ?_)
      show pw _ _ _ _ _ _ _ 120 _ [.long (v3)] _ _
      refine pw_l2i (aX11_search 63 rfl) ?_
      refine pw_istore (L2 := [(16, .int ((v3).toInt32)), (0, .ref (base + 0)), (1, va_rf (h_rf base (a1))), (2, .long (a2)), (4, .long (a3)), (6, .int (a4)), (7, .long (l7l)), (9, .int (l9i)), (10, .int (l10i)), (11, .int (l11i)), (12, .long (l12l)), (14, .long (l14l)), (17, .int (l17i))]) (aX11_search 64 rfl) (by first | rfl | (simp [x_s1, x_s2, va_cat, va_ci, va_cl, va_cr, va_cn]; done) | (simp [x_s1, x_s2, va_cat, va_ci, va_cl, va_cr, va_cn]; decide)) ?_
      refine pw_iload (aX11_search 65 rfl) rfl ?_
      refine pw_bipush (v := (18 : Int32)) (aX11_search 66 rfl) rfl ?_
      refine pw_isub (aX11_search 67 rfl) ?_
      refine pw_iload (aX11_search 68 rfl) rfl ?_
      refine pw_icge (tgt := 140) (aX11_search 69 rfl) (by decide) (fun b4 => ?_) (fun b4 => ?_)
      · skip
        refine pw_aloadn (aX11_search 70 rfl) rfl ?_
        refine pw_iload (aX11_search 71 rfl) rfl ?_
        refine pw_callV (Bs := [.int (l9i)]) (rest := []) (aX11_search 72 rfl) um_RX11_163 ujX11_endless wc_RX11_163.2.2.2.2 (by decide) (by decide) rfl rfl (fun d => rX11_endless hkb (l9i) n3 sl3 SH3 FI3 FL3 FR3 hok3) (fun v5 n5 sl5 SH5 FI5 FL5 FR5 hok5 _ => ?_)
        show pw _ _ _ _ _ _ _ 139 _ [.int (v5)] _ _
        exact pw_iret (aX11_search 73 rfl) hok5
      · skip
        refine pw_iload (aX11_search 74 rfl) rfl ?_
        refine pw_bipush (v := (18 : Int32)) (aX11_search 75 rfl) rfl ?_
        refine pw_iadd (aX11_search 76 rfl) ?_
        refine pw_istore (L2 := [(17, .int ((l9i) + ((18 : Int32)))), (16, .int ((v3).toInt32)), (0, .ref (base + 0)), (1, va_rf (h_rf base (a1))), (2, .long (a2)), (4, .long (a3)), (6, .int (a4)), (7, .long (l7l)), (9, .int (l9i)), (10, .int (l10i)), (11, .int (l11i)), (12, .long (l12l)), (14, .long (l14l))]) (aX11_search 77 rfl) (by first | rfl | (simp [x_s1, x_s2, va_cat, va_ci, va_cl, va_cr, va_cn]; done) | (simp [x_s1, x_s2, va_cat, va_ci, va_cl, va_cr, va_cn]; decide)) ?_
        refine pw_lload (aX11_search 78 rfl) rfl ?_
        refine pw_lload (aX11_search 79 rfl) rfl ?_
        refine pw_lload (aX11_search 80 rfl) rfl ?_
        refine pw_ladd (aX11_search 81 rfl) ?_
        refine pw_cf (pw_callS (As := [.long (a3), .long ((l7l) + (l12l))]) (rest := []) (aX11_search 82 rfl) um_RX11_173 ujX11_isBelow wc_RX11_173.2.2.2.2 (by decide) rfl rfl (fun d => rX11_isBelow hkb (a3) ((l7l) + (l12l)) n3 sl3 SH3 FI3 FL3 FR3 hok3) (fun v6 n6 sl6 SH6 FI6 FL6 FR6 _ hC => ?_))
        obtain ⟨e9, hC⟩ := hC; have e9 := e9.symm; subst e9; cases hC
        show pw _ _ _ _ _ _ _ 157 _ [.int (fX11_isBelow (a3) ((l7l) + (l12l)) SH3 FI3 FL3 FR3)] _ _
        refine pw_ifne (tgt := 188) (aX11_search 83 rfl) (by decide) (fun b7 => ?_) (fun b7 => ?_)
        · skip
          refine pw_lload (aX11_search 84 rfl) rfl ?_
          refine pw_lload (aX11_search 85 rfl) rfl ?_
          refine pw_lload (aX11_search 86 rfl) rfl ?_
          refine pw_ladd (aX11_search 87 rfl) ?_
          refine pw_cf (pw_callS (As := [.long (a3), .long ((l7l) + (l14l))]) (rest := []) (aX11_search 88 rfl) um_RX11_173 ujX11_isBelow wc_RX11_173.2.2.2.2 (by decide) rfl rfl (fun d => rX11_isBelow hkb (a3) ((l7l) + (l14l)) n3 sl3 SH3 FI3 FL3 FR3 hok3) (fun v8 n8 sl8 SH8 FI8 FL8 FR8 _ hC => ?_))
          obtain ⟨e9, hC⟩ := hC; have e9 := e9.symm; subst e9; cases hC
          show pw _ _ _ _ _ _ _ 170 _ [.int (fX11_isBelow (a3) ((l7l) + (l14l)) SH3 FI3 FL3 FR3)] _ _
          refine pw_ifeq (tgt := 188) (aX11_search 89 rfl) (by decide) (fun b9 => ?_) (fun b9 => ?_)
          · skip
            exact pw_Li (L2 := [(0, .ref (base + 0)), (1, va_rf (h_rf base (a1))), (2, .long (a2)), (4, .long (a3)), (6, .int (a4)), (7, .long (l7l)), (9, .int (l9i)), (10, .int (l10i)), (11, .int (l11i)), (12, .long (l12l)), (14, .long (l14l)), (16, .int ((v3).toInt32)), (17, .int ((l9i) + ((18 : Int32))))]) [12, 11, 0, 1, 2, 3, 4, 5, 6, 7, 8, 9, 10] (rX11_search_188 hkb a1 a2 a3 a4 (l7l) (l10i) ((v3).toInt32) ((l9i) + ((18 : Int32))) (l9i) (l11i) (l12l) (l14l) n3 sl3 SH3 FI3 FL3 FR3 hok3  hK9) ⟨rfl, rfl, rfl, rfl, rfl, rfl, rfl, rfl, rfl, rfl, rfl, rfl, rfl, trivial⟩
          · skip
            refine pw_aloadn (aX11_search 90 rfl) rfl ?_
            refine pw_aloadn (aX11_search 91 rfl) rfl ?_
            refine pw_iload (aX11_search 92 rfl) rfl ?_
            refine pw_iload (aX11_search 93 rfl) rfl ?_
            refine pw_iload (aX11_search 94 rfl) rfl ?_
            refine pw_iadd (aX11_search 95 rfl) ?_
            refine pw_iload (aX11_search 96 rfl) rfl ?_
            refine pw_callV (Bs := [va_rf (h_rf base (a1)), .int ((l9i) + ((18 : Int32))), .int (((l9i) + ((18 : Int32))) + ((v3).toInt32)), .int (a4)]) (L2 := [(0, .ref (base + 0)), (1, va_rf (h_rf base (a1))), (2, .int ((l9i) + ((18 : Int32)))), (3, .int (((l9i) + ((18 : Int32))) + ((v3).toInt32))), (4, .int (a4))]) (rest := []) (aX11_search 97 rfl) um_RX11_132 ujX11_runBytes wc_RX11_132.2.2.2.2 (by decide) (by decide) rfl (by first | rfl | simp [lv_args, va_cat, va_ci, va_cl, va_cr, va_cn]) (fun d => rX11_runBytes hkb (a1) ((l9i) + ((18 : Int32))) (((l9i) + ((18 : Int32))) + ((v3).toInt32)) (a4) n3 sl3 SH3 FI3 FL3 FR3 hok3) (fun v10 n10 sl10 SH10 FI10 FL10 FR10 hok10 _ => ?_)
            show pw _ _ _ _ _ _ _ 187 _ [.int (v10)] _ _
            exact pw_iret (aX11_search 98 rfl) hok10
        · skip
          exact pw_Li (L2 := [(0, .ref (base + 0)), (1, va_rf (h_rf base (a1))), (2, .long (a2)), (4, .long (a3)), (6, .int (a4)), (7, .long (l7l)), (9, .int (l9i)), (10, .int (l10i)), (11, .int (l11i)), (12, .long (l12l)), (14, .long (l14l)), (16, .int ((v3).toInt32)), (17, .int ((l9i) + ((18 : Int32))))]) [12, 11, 0, 1, 2, 3, 4, 5, 6, 7, 8, 9, 10] (rX11_search_188 hkb a1 a2 a3 a4 (l7l) (l10i) ((v3).toInt32) ((l9i) + ((18 : Int32))) (l9i) (l11i) (l12l) (l14l) n3 sl3 SH3 FI3 FL3 FR3 hok3  hK9) ⟨rfl, rfl, rfl, rfl, rfl, rfl, rfl, rfl, rfl, rfl, rfl, rfl, rfl, trivial⟩
set_option maxHeartbeats 4000000 in
set_option maxRecDepth 100000 in
theorem bX11_search_9 {sk : xK} {base N d : Nat} {K9 : Int64 → Int32 → Int32 → Nat → Nat → (Nat → Nat × Nat) → (Nat → Nat → Int32) → (Nat → Nat → Int64) → (Nat → Nat → Option Nat) → Int32 → hS → Prop} (hkb : x_kb sk base) (a1 : Option Nat) (a2 : Int64) (a3 : Int64) (a4 : Int32) (l7l : Int64) (l9i : Int32) (l10i : Int32) (l11i : Int32) (l12l : Int64) (l14l : Int64) (l16i : Int32) (l17i : Int32) (n sl : Nat) (SH : Nat → Nat × Nat) (FI : Nat → Nat → Int32) (FL : Nat → Nat → Int64) (FR : Nat → Nat → Option Nat) (hok : pk n SH FR)  (hK9 : ∀ (l7l : Int64) (l9i : Int32) (l10i : Int32) (l11i : Int32) (l12l : Int64) (l14l : Int64) (l16i : Int32) (l17i : Int32) (n sl : Nat) (SH : Nat → Nat × Nat) (FI : Nat → Nat → Int32) (FL : Nat → Nat → Int64) (FR : Nat → Nat → Option Nat), pk n SH FR → pw pj_I sk base N d none 135 9 [(0, .ref (base + 0)), (1, va_rf (h_rf base (a1))), (2, .long (a2)), (4, .long (a3)), (6, .int (a4)), (7, .long (l7l)), (9, .int (l9i)), (10, .int (l10i)), (11, .int (l11i)), (12, .long (l12l)), (14, .long (l14l)), (16, .int (l16i)), (17, .int (l17i))] [] (n, sl, SH, FI, FL, FR) (K9 l7l l9i l10i n sl SH FI FL FR)) : pw pj_I sk base (N + 1) d none 135 9 [(0, .ref (base + 0)), (1, va_rf (h_rf base (a1))), (2, .long (a2)), (4, .long (a3)), (6, .int (a4)), (7, .long (l7l)), (9, .int (l9i)), (10, .int (l10i)), (11, .int (l11i)), (12, .long (l12l)), (14, .long (l14l)), (16, .int (l16i)), (17, .int (l17i))] [] (n, sl, SH, FI, FL, FR) (BX11_search_9 K9 a1 a2 a3 a4 l7l l9i l10i n sl SH FI FL FR) := by
  unfold BX11_search_9
  refine pd_iload (aX11_search 6 rfl) rfl ?_
  refine pw_bipush (v := (37 : Int32)) (aX11_search 7 rfl) rfl ?_
  refine pw_icgt (tgt := 201) (aX11_search 8 rfl) (by decide) (fun b0 => ?_) (fun b0 => ?_)
  · skip
    refine pw_aloadn (aX11_search 105 rfl) rfl ?_
    refine pw_getr (v := .ref (base + 1)) (aX11_search 106 rfl) uf_RX11_10 un_RX11_10 (congrArg (fun r => va_rf (h_rf base r)) (q0_5 (hok).2.1)) ?_
    refine pw_callV (Bs := []) (rest := []) (aX11_search 107 rfl) um_RX11_177 ujX8_clear wc_RX11_177.2.2.2.2 (by decide) (by decide) rfl rfl (fun d => rX8_clear hkb 1 n sl SH FI FL FR hok) (fun v1 n1 sl1 SH1 FI1 FL1 FR1 hok1 _ => ?_)
    show pw _ _ _ _ _ _ _ 208 _ [] _ _
    refine pw_aloadn (aX11_search 108 rfl) rfl ?_
    refine pw_iconst (v := (0 : Int32)) (aX11_search 109 rfl) rfl ?_
    refine pw_iconst (v := (-1 : Int32)) (aX11_search 110 rfl) rfl ?_
    refine pw_iconst (v := (0 : Int32)) (aX11_search 111 rfl) rfl ?_
    refine pw_iconst (v := (0 : Int32)) (aX11_search 112 rfl) rfl ?_
    refine pw_callV (Bs := [.int ((0 : Int32)), .int ((-1 : Int32)), .int ((0 : Int32)), .int ((0 : Int32))]) (rest := []) (aX11_search 113 rfl) um_RX11_159 ujX11_tell wc_RX11_159.2.2.2.2 (by decide) (by decide) rfl rfl (fun d => rX11_tell hkb ((0 : Int32)) ((-1 : Int32)) ((0 : Int32)) ((0 : Int32)) n1 sl1 SH1 FI1 FL1 FR1 hok1) (fun v2 n2 sl2 SH2 FI2 FL2 FR2 hok2 _ => ?_)
    show pw _ _ _ _ _ _ _ 216 _ [] _ _
    refine pw_iconst (v := (0 : Int32)) (aX11_search 114 rfl) rfl ?_
    exact pw_iret (aX11_search 115 rfl) hok2
  · skip
    refine pw_aloadn (aX11_search 9 rfl) rfl ?_
    refine pw_alen hkb (o := a1) (aX11_search 10 rfl) (fun c4 hc4 _ => ?_)
    refine pw_iload (aX11_search 11 rfl) rfl ?_
    refine pw_isub (aX11_search 12 rfl) ?_
    refine pw_istore (L2 := [(11, .int ((Int32.ofNat (SH c4).2) - (l9i))), (0, .ref (base + 0)), (1, va_rf (h_rf base (a1))), (2, .long (a2)), (4, .long (a3)), (6, .int (a4)), (7, .long (l7l)), (9, .int (l9i)), (10, .int (l10i)), (12, .long (l12l)), (14, .long (l14l)), (16, .int (l16i)), (17, .int (l17i))]) (aX11_search 13 rfl) (by first | rfl | (simp [x_s1, x_s2, va_cat, va_ci, va_cl, va_cr, va_cn]; done) | (simp [x_s1, x_s2, va_cat, va_ci, va_cl, va_cr, va_cn]; decide)) ?_
    refine pw_iload (aX11_search 14 rfl) rfl ?_
    refine pw_bipush (v := (16 : Int32)) (aX11_search 15 rfl) rfl ?_
    refine pw_icge (tgt := 37) (aX11_search 16 rfl) (by decide) (fun b4 => ?_) (fun b4 => ?_)
    · skip
      refine pw_aloadn (aX11_search 17 rfl) rfl ?_
      refine pw_iload (aX11_search 18 rfl) rfl ?_
      refine pw_callV (Bs := [.int (l9i)]) (rest := []) (aX11_search 19 rfl) um_RX11_163 ujX11_endless wc_RX11_163.2.2.2.2 (by decide) (by decide) rfl rfl (fun d => rX11_endless hkb (l9i) n sl SH FI FL FR hok) (fun v5 n5 sl5 SH5 FI5 FL5 FR5 hok5 _ => ?_)
      show pw _ _ _ _ _ _ _ 36 _ [.int (v5)] _ _
      exact pw_iret (aX11_search 20 rfl) hok5
    · skip
      refine pw_aloadn (aX11_search 21 rfl) rfl ?_
      refine pw_iload (aX11_search 22 rfl) rfl ?_
      refine pw_bipush (v := (8 : Int32)) (aX11_search 23 rfl) rfl ?_
      refine pw_callS (As := [va_rf (h_rf base (a1)), .int (l9i), .int ((8 : Int32))]) (L2 := [(0, va_rf (h_rf base (a1))), (1, .int (l9i)), (2, .int ((8 : Int32)))]) (rest := []) (aX11_search 24 rfl) um_RX11_167 ujX11_number wc_RX11_167.2.2.2.2 (by decide) rfl (by first | rfl | simp [lv_args, va_cat, va_ci, va_cl, va_cr, va_cn]) (fun d => rX11_number hkb (a1) (l9i) ((8 : Int32)) n sl SH FI FL FR hok) (fun v6 n6 sl6 SH6 FI6 FL6 FR6 hok6 _ => ?_)
      show pw _ _ _ _ _ _ _ 45 _ [.long (v6)] _ _
      refine pw_lstore (L2 := [(12, .long (v6)), (11, .int ((Int32.ofNat (SH c4).2) - (l9i))), (0, .ref (base + 0)), (1, va_rf (h_rf base (a1))), (2, .long (a2)), (4, .long (a3)), (6, .int (a4)), (7, .long (l7l)), (9, .int (l9i)), (10, .int (l10i)), (14, .long (l14l)), (16, .int (l16i)), (17, .int (l17i))]) (aX11_search 25 rfl) (by first | rfl | (simp [x_s1, x_s2, va_cat, va_ci, va_cl, va_cr, va_cn]; done) | (simp [x_s1, x_s2, va_cat, va_ci, va_cl, va_cr, va_cn]; decide)) ?_
      refine pw_aloadn (aX11_search 26 rfl) rfl ?_
      refine pw_iload (aX11_search 27 rfl) rfl ?_
      refine pw_bipush (v := (8 : Int32)) (aX11_search 28 rfl) rfl ?_
      refine pw_iadd (aX11_search 29 rfl) ?_
      refine pw_bipush (v := (8 : Int32)) (aX11_search 30 rfl) rfl ?_
      refine pw_callS (As := [va_rf (h_rf base (a1)), .int ((l9i) + ((8 : Int32))), .int ((8 : Int32))]) (L2 := [(0, va_rf (h_rf base (a1))), (1, .int ((l9i) + ((8 : Int32)))), (2, .int ((8 : Int32)))]) (rest := []) (aX11_search 31 rfl) um_RX11_167 ujX11_number wc_RX11_167.2.2.2.2 (by decide) rfl (by first | rfl | simp [lv_args, va_cat, va_ci, va_cl, va_cr, va_cn]) (fun d => rX11_number hkb (a1) ((l9i) + ((8 : Int32))) ((8 : Int32)) n6 sl6 SH6 FI6 FL6 FR6 hok6) (fun v7 n7 sl7 SH7 FI7 FL7 FR7 hok7 _ => ?_)
      show pw _ _ _ _ _ _ _ 58 _ [.long (v7)] _ _
      refine pw_lstore (L2 := [(14, .long (v7)), (12, .long (v6)), (11, .int ((Int32.ofNat (SH c4).2) - (l9i))), (0, .ref (base + 0)), (1, va_rf (h_rf base (a1))), (2, .long (a2)), (4, .long (a3)), (6, .int (a4)), (7, .long (l7l)), (9, .int (l9i)), (10, .int (l10i)), (16, .int (l16i)), (17, .int (l17i))]) (aX11_search 32 rfl) (by first | rfl | (simp [x_s1, x_s2, va_cat, va_ci, va_cl, va_cr, va_cn]; done) | (simp [x_s1, x_s2, va_cat, va_ci, va_cl, va_cr, va_cn]; decide)) ?_
      refine pw_lload (aX11_search 33 rfl) rfl ?_
      refine pw_lconst (v := (0 : Int64)) (aX11_search 34 rfl) rfl ?_
      refine pw_lcne (tgt := 77) (aX11_search 35 rfl) (aX11_search 36 rfl) (by decide) (fun b8 => ?_) (fun b8 => ?_)
      · skip
        refine pw_lload (aX11_search 37 rfl) rfl ?_
        refine pw_lconst (v := (0 : Int64)) (aX11_search 38 rfl) rfl ?_
        refine pw_lcne (tgt := 77) (aX11_search 39 rfl) (aX11_search 40 rfl) (by decide) (fun b9 => ?_) (fun b9 => ?_)
        · skip
          refine pw_goto (tgt := 201) (aX11_search 41 rfl) (by decide) ?_
          refine pw_aloadn (aX11_search 105 rfl) rfl ?_
          refine pw_getr (v := .ref (base + 1)) (aX11_search 106 rfl) uf_RX11_10 un_RX11_10 (congrArg (fun r => va_rf (h_rf base r)) (q0_5 (hok7).2.1)) ?_
          refine pw_callV (Bs := []) (rest := []) (aX11_search 107 rfl) um_RX11_177 ujX8_clear wc_RX11_177.2.2.2.2 (by decide) (by decide) rfl rfl (fun d => rX8_clear hkb 1 n7 sl7 SH7 FI7 FL7 FR7 hok7) (fun v10 n10 sl10 SH10 FI10 FL10 FR10 hok10 _ => ?_)
          show pw _ _ _ _ _ _ _ 208 _ [] _ _
          refine pw_aloadn (aX11_search 108 rfl) rfl ?_
          refine pw_iconst (v := (0 : Int32)) (aX11_search 109 rfl) rfl ?_
          refine pw_iconst (v := (-1 : Int32)) (aX11_search 110 rfl) rfl ?_
          refine pw_iconst (v := (0 : Int32)) (aX11_search 111 rfl) rfl ?_
          refine pw_iconst (v := (0 : Int32)) (aX11_search 112 rfl) rfl ?_
          refine pw_callV (Bs := [.int ((0 : Int32)), .int ((-1 : Int32)), .int ((0 : Int32)), .int ((0 : Int32))]) (rest := []) (aX11_search 113 rfl) um_RX11_159 ujX11_tell wc_RX11_159.2.2.2.2 (by decide) (by decide) rfl rfl (fun d => rX11_tell hkb ((0 : Int32)) ((-1 : Int32)) ((0 : Int32)) ((0 : Int32)) n10 sl10 SH10 FI10 FL10 FR10 hok10) (fun v11 n11 sl11 SH11 FI11 FL11 FR11 hok11 _ => ?_)
          show pw _ _ _ _ _ _ _ 216 _ [] _ _
          refine pw_iconst (v := (0 : Int32)) (aX11_search 114 rfl) rfl ?_
          exact pw_iret (aX11_search 115 rfl) hok11
        · skip
          exact pw_Li (L2 := [(0, .ref (base + 0)), (1, va_rf (h_rf base (a1))), (2, .long (a2)), (4, .long (a3)), (6, .int (a4)), (7, .long (l7l)), (9, .int (l9i)), (10, .int (l10i)), (11, .int ((Int32.ofNat (SH c4).2) - (l9i))), (12, .long (v6)), (14, .long (v7)), (16, .int (l16i)), (17, .int (l17i))]) [10, 9, 8, 0, 1, 2, 3, 4, 5, 6, 7, 11, 12] (rX11_search_77 hkb a1 a2 a3 a4 (l7l) (l9i) (l10i) ((Int32.ofNat (SH c4).2) - (l9i)) (v6) (v7) (l16i) (l17i) n7 sl7 SH7 FI7 FL7 FR7 hok7  hK9) ⟨rfl, rfl, rfl, rfl, rfl, rfl, rfl, rfl, rfl, rfl, rfl, rfl, rfl, trivial⟩
      · skip
        exact pw_Li (L2 := [(0, .ref (base + 0)), (1, va_rf (h_rf base (a1))), (2, .long (a2)), (4, .long (a3)), (6, .int (a4)), (7, .long (l7l)), (9, .int (l9i)), (10, .int (l10i)), (11, .int ((Int32.ofNat (SH c4).2) - (l9i))), (12, .long (v6)), (14, .long (v7)), (16, .int (l16i)), (17, .int (l17i))]) [10, 9, 8, 0, 1, 2, 3, 4, 5, 6, 7, 11, 12] (rX11_search_77 hkb a1 a2 a3 a4 (l7l) (l9i) (l10i) ((Int32.ofNat (SH c4).2) - (l9i)) (v6) (v7) (l16i) (l17i) n7 sl7 SH7 FI7 FL7 FR7 hok7  hK9) ⟨rfl, rfl, rfl, rfl, rfl, rfl, rfl, rfl, rfl, rfl, rfl, rfl, rfl, trivial⟩
theorem gX11_search_9 {sk : xK} {base d : Nat}  (hkb : x_kb sk base) (a1 : Option Nat) (a2 : Int64) (a3 : Int64) (a4 : Int32) (N : Nat) :  ∀ (l7l : Int64) (l9i : Int32) (l10i : Int32) (l11i : Int32) (l12l : Int64) (l14l : Int64) (l16i : Int32) (l17i : Int32) (n sl : Nat) (SH : Nat → Nat × Nat) (FI : Nat → Nat → Int32) (FL : Nat → Nat → Int64) (FR : Nat → Nat → Option Nat), pk n SH FR → pw pj_I sk base N d none 135 9 [(0, .ref (base + 0)), (1, va_rf (h_rf base (a1))), (2, .long (a2)), (4, .long (a3)), (6, .int (a4)), (7, .long (l7l)), (9, .int (l9i)), (10, .int (l10i)), (11, .int (l11i)), (12, .long (l12l)), (14, .long (l14l)), (16, .int (l16i)), (17, .int (l17i))] [] (n, sl, SH, FI, FL, FR) (GX11_search_9  a1 a2 a3 a4 (N + 1) l7l l9i l10i n sl SH FI FL FR) := by
  induction N with
  | zero => intros; exact pw_0
  | succ N ih => intro   l7l l9i l10i l11i l12l l14l l16i l17i n sl SH FI FL FR hok; exact bX11_search_9 hkb a1 a2 a3 a4 l7l l9i l10i l11i l12l l14l l16i l17i n sl SH FI FL FR hok  (ih  )
theorem rX11_search_9 {sk : xK} {base N d : Nat}  (hkb : x_kb sk base) (a1 : Option Nat) (a2 : Int64) (a3 : Int64) (a4 : Int32) (l7l : Int64) (l9i : Int32) (l10i : Int32) (l11i : Int32) (l12l : Int64) (l14l : Int64) (l16i : Int32) (l17i : Int32) (n sl : Nat) (SH : Nat → Nat × Nat) (FI : Nat → Nat → Int32) (FL : Nat → Nat → Int64) (FR : Nat → Nat → Option Nat) (hok : pk n SH FR)   : pw pj_I sk base N d none 135 9 [(0, .ref (base + 0)), (1, va_rf (h_rf base (a1))), (2, .long (a2)), (4, .long (a3)), (6, .int (a4)), (7, .long (l7l)), (9, .int (l9i)), (10, .int (l10i)), (11, .int (l11i)), (12, .long (l12l)), (14, .long (l14l)), (16, .int (l16i)), (17, .int (l17i))] [] (n, sl, SH, FI, FL, FR) (RX11_search_9  a1 a2 a3 a4 l7l l9i l10i n sl SH FI FL FR) := pw_cons (gX11_search_9 hkb a1 a2 a3 a4 N   l7l l9i l10i l11i l12l l14l l16i l17i n sl SH FI FL FR hok) (fun _ _ h => ⟨_, h⟩)
set_option maxHeartbeats 4000000 in
set_option maxRecDepth 100000 in
theorem rX11_search {sk : xK} {base N d : Nat} (hkb : x_kb sk base) (a1 : Option Nat) (a2 : Int64) (a3 : Int64) (a4 : Int32) (n sl : Nat) (SH : Nat → Nat × Nat) (FI : Nat → Nat → Int32) (FL : Nat → Nat → Int64) (FR : Nat → Nat → Option Nat) (hok : pk n SH FR)  : pw pj_I sk base N d none 135 0 [(0, .ref (base + 0)), (1, va_rf (h_rf base (a1))), (2, .long (a2)), (4, .long (a3)), (6, .int (a4))] [] (n, sl, SH, FI, FL, FR) (RX11_search a1 a2 a3 a4 n sl SH FI FL FR) := by
  unfold RX11_search
  refine pw_lloadn (aX11_search 0 rfl) rfl ?_
  refine pw_lstore (L2 := [(7, .long (a2)), (0, .ref (base + 0)), (1, va_rf (h_rf base (a1))), (2, .long (a2)), (4, .long (a3)), (6, .int (a4))]) (aX11_search 1 rfl) (by first | rfl | (simp [x_s1, x_s2, va_cat, va_ci, va_cl, va_cr, va_cn]; done) | (simp [x_s1, x_s2, va_cat, va_ci, va_cl, va_cr, va_cn]; decide)) ?_
  refine pw_iconst (v := (0 : Int32)) (aX11_search 2 rfl) rfl ?_
  refine pw_istore (L2 := [(9, .int ((0 : Int32))), (7, .long (a2)), (0, .ref (base + 0)), (1, va_rf (h_rf base (a1))), (2, .long (a2)), (4, .long (a3)), (6, .int (a4))]) (aX11_search 3 rfl) (by first | rfl | (simp [x_s1, x_s2, va_cat, va_ci, va_cl, va_cr, va_cn]; done) | (simp [x_s1, x_s2, va_cat, va_ci, va_cl, va_cr, va_cn]; decide)) ?_
  refine pw_iconst (v := (0 : Int32)) (aX11_search 4 rfl) rfl ?_
  refine pw_istore (L2 := [(10, .int ((0 : Int32))), (9, .int ((0 : Int32))), (7, .long (a2)), (0, .ref (base + 0)), (1, va_rf (h_rf base (a1))), (2, .long (a2)), (4, .long (a3)), (6, .int (a4))]) (aX11_search 5 rfl) (by first | rfl | (simp [x_s1, x_s2, va_cat, va_ci, va_cl, va_cr, va_cn]; done) | (simp [x_s1, x_s2, va_cat, va_ci, va_cl, va_cr, va_cn]; decide)) ?_
  exact pw_Li (L2 := [(0, .ref (base + 0)), (1, va_rf (h_rf base (a1))), (2, .long (a2)), (4, .long (a3)), (6, .int (a4)), (7, .long (a2)), (9, .int ((0 : Int32))), (10, .int ((0 : Int32))), (11, .int 0), (12, .long 0), (14, .long 0), (16, .int 0), (17, .int 0)]) [7, 6, 5, 0, 1, 2, 3, 4] (rX11_search_9 hkb a1 a2 a3 a4 (a2) ((0 : Int32)) ((0 : Int32)) 0 0 0 0 0 n sl SH FI FL FR hok  ) ⟨rfl, rfl, rfl, rfl, rfl, rfl, rfl, rfl, trivial⟩
set_option maxHeartbeats 4000000 in
set_option maxRecDepth 100000 in
theorem rX11_run {sk : xK} {base N d : Nat} (hkb : x_kb sk base) (a1 : Int32) (a2 : Int32) (n sl : Nat) (SH : Nat → Nat × Nat) (FI : Nat → Nat → Int32) (FL : Nat → Nat → Int64) (FR : Nat → Nat → Option Nat) (hok : pk n SH FR)  : pw pj_I sk base N d none 131 0 [(0, .ref (base + 0)), (1, .int (a1)), (2, .int (a2))] [] (n, sl, SH, FI, FL, FR) (RX11_run a1 a2 n sl SH FI FL FR) := by
  unfold RX11_run
  refine pw_iloadn (aX11_run 0 rfl) rfl ?_
  refine pw_iflt (tgt := 23) (aX11_run 1 rfl) (by decide) (fun b0 => ?_) (fun b0 => ?_)
  · skip
    refine pw_iconst (v := (-1 : Int32)) (aX11_run 11 rfl) rfl ?_
    exact pw_iret (aX11_run 12 rfl) hok
  · skip
    refine pw_iloadn (aX11_run 2 rfl) rfl ?_
    refine pw_aloadn (aX11_run 3 rfl) rfl ?_
    refine pw_getr (v := .ref (base + 23)) (aX11_run 4 rfl) uf_RX11_35 un_RX11_35 (congrArg (fun r => va_rf (h_rf base r)) (q0_0 (hok).2.1)) ?_
    refine pw_getr (v := .ref (base + 26)) (aX11_run 5 rfl) uf_RX11_77 un_RX11_77 (congrArg (fun r => va_rf (h_rf base r)) (q23_2 (hok).2.1)) ?_
    refine pw_alenr hkb (c := 26) (aX11_run 6 rfl) ?_
    refine pw_icge (tgt := 23) (aX11_run 7 rfl) (by decide) (fun b1 => ?_) (fun b1 => ?_)
    · skip
      refine pw_iloadn (aX11_run 8 rfl) rfl ?_
      refine pw_cf (pw_callS (As := [.int (a2)]) (rest := []) (aX11_run 9 rfl) um_RX11_128 ujX11_isFuel wc_RX11_128.2.2.2.2 (by decide) rfl rfl (fun d => rX11_isFuel hkb (a2) n sl SH FI FL FR hok) (fun v2 n2 sl2 SH2 FI2 FL2 FR2 _ hC => ?_))
      obtain ⟨rfl, hC⟩ := hC; cases hC
      show pw _ _ _ _ _ _ _ 20 _ [.int (fX11_isFuel (a2) SH FI FL FR)] _ _
      refine pw_ifne (tgt := 25) (aX11_run 10 rfl) (by decide) (fun b3 => ?_) (fun b3 => ?_)
      · skip
        refine pw_iconst (v := (-1 : Int32)) (aX11_run 11 rfl) rfl ?_
        exact pw_iret (aX11_run 12 rfl) hok
      · skip
        refine pw_aloadn (aX11_run 13 rfl) rfl ?_
        refine pw_getr (v := .ref (base + 23)) (aX11_run 14 rfl) uf_RX11_35 un_RX11_35 (congrArg (fun r => va_rf (h_rf base r)) (q0_0 (hok).2.1)) ?_
        refine pw_getr (v := .ref (base + 26)) (aX11_run 15 rfl) uf_RX11_77 un_RX11_77 (congrArg (fun r => va_rf (h_rf base r)) (q23_2 (hok).2.1)) ?_
        refine pw_iloadn (aX11_run 16 rfl) rfl ?_
        refine pw_aaldr (c := 26) (ix := (a1).toInt.toNat) (aX11_run 17 rfl) rfl (fun _ => ?_)
        refine pw_astoren (L2 := [(3, va_rf (h_rf base (FR 26 (a1).toInt.toNat))), (0, .ref (base + 0)), (1, .int (a1)), (2, .int (a2))]) (aX11_run 18 rfl) (by first | rfl | (simp [x_s1, x_s2, va_cat, va_ci, va_cl, va_cr, va_cn]; done) | (simp [x_s1, x_s2, va_cat, va_ci, va_cl, va_cr, va_cn]; decide)) ?_
        refine pw_aloadn (aX11_run 19 rfl) rfl ?_
        refine pw_aloadn (aX11_run 20 rfl) rfl ?_
        refine pw_iconst (v := (0 : Int32)) (aX11_run 21 rfl) rfl ?_
        refine pw_aloadn (aX11_run 22 rfl) rfl ?_
        refine pw_alen hkb (o := FR 26 (a1).toInt.toNat) (aX11_run 23 rfl) (fun c5 hc5 _ => ?_)
        refine pw_iloadn (aX11_run 24 rfl) rfl ?_
        refine pw_callV (Bs := [va_rf (h_rf base (FR 26 (a1).toInt.toNat)), .int ((0 : Int32)), .int (Int32.ofNat (SH c5).2), .int (a2)]) (L2 := [(0, .ref (base + 0)), (1, va_rf (h_rf base (FR 26 (a1).toInt.toNat))), (2, .int ((0 : Int32))), (3, .int (Int32.ofNat (SH c5).2)), (4, .int (a2))]) (rest := []) (aX11_run 25 rfl) um_RX11_132 ujX11_runBytes wc_RX11_132.2.2.2.2 (by decide) (by decide) rfl (by first | rfl | simp [lv_args, va_cat, va_ci, va_cl, va_cr, va_cn]) (fun d => rX11_runBytes hkb (FR 26 (a1).toInt.toNat) ((0 : Int32)) (Int32.ofNat (SH c5).2) (a2) n sl SH FI FL FR hok) (fun v5 n5 sl5 SH5 FI5 FL5 FR5 hok5 _ => ?_)
        show pw _ _ _ _ _ _ _ 44 _ [.int (v5)] _ _
        exact pw_iret (aX11_run 26 rfl) hok5
    · skip
      refine pw_iconst (v := (-1 : Int32)) (aX11_run 11 rfl) rfl ?_
      exact pw_iret (aX11_run 12 rfl) hok
set_option maxHeartbeats 4000000 in
set_option maxRecDepth 100000 in
theorem rX11_find {sk : xK} {base N d : Nat} (hkb : x_kb sk base) (a1 : Int32) (a2 : Int64) (a3 : Int64) (a4 : Int32) (n sl : Nat) (SH : Nat → Nat × Nat) (FI : Nat → Nat → Int32) (FL : Nat → Nat → Int64) (FR : Nat → Nat → Option Nat) (hok : pk n SH FR)  : pw pj_I sk base N d none 132 0 [(0, .ref (base + 0)), (1, .int (a1)), (2, .long (a2)), (4, .long (a3)), (6, .int (a4))] [] (n, sl, SH, FI, FL, FR) (RX11_find a1 a2 a3 a4 n sl SH FI FL FR) := by
  unfold RX11_find
  refine pw_iloadn (aX11_find 0 rfl) rfl ?_
  refine pw_iflt (tgt := 24) (aX11_find 1 rfl) (by decide) (fun b0 => ?_) (fun b0 => ?_)
  · skip
    refine pw_iconst (v := (-1 : Int32)) (aX11_find 11 rfl) rfl ?_
    exact pw_iret (aX11_find 12 rfl) hok
  · skip
    refine pw_iloadn (aX11_find 2 rfl) rfl ?_
    refine pw_aloadn (aX11_find 3 rfl) rfl ?_
    refine pw_getr (v := .ref (base + 23)) (aX11_find 4 rfl) uf_RX11_35 un_RX11_35 (congrArg (fun r => va_rf (h_rf base r)) (q0_0 (hok).2.1)) ?_
    refine pw_getr (v := .ref (base + 43)) (aX11_find 5 rfl) uf_RX11_85 un_RX11_85 (congrArg (fun r => va_rf (h_rf base r)) (q23_3 (hok).2.1)) ?_
    refine pw_alenr hkb (c := 43) (aX11_find 6 rfl) ?_
    refine pw_icge (tgt := 24) (aX11_find 7 rfl) (by decide) (fun b1 => ?_) (fun b1 => ?_)
    · skip
      refine pw_iload (aX11_find 8 rfl) rfl ?_
      refine pw_cf (pw_callS (As := [.int (a4)]) (rest := []) (aX11_find 9 rfl) um_RX11_128 ujX11_isFuel wc_RX11_128.2.2.2.2 (by decide) rfl rfl (fun d => rX11_isFuel hkb (a4) n sl SH FI FL FR hok) (fun v2 n2 sl2 SH2 FI2 FL2 FR2 _ hC => ?_))
      obtain ⟨rfl, hC⟩ := hC; cases hC
      show pw _ _ _ _ _ _ _ 21 _ [.int (fX11_isFuel (a4) SH FI FL FR)] _ _
      refine pw_ifne (tgt := 26) (aX11_find 10 rfl) (by decide) (fun b3 => ?_) (fun b3 => ?_)
      · skip
        refine pw_iconst (v := (-1 : Int32)) (aX11_find 11 rfl) rfl ?_
        exact pw_iret (aX11_find 12 rfl) hok
      · skip
        refine pw_aloadn (aX11_find 13 rfl) rfl ?_
        refine pw_aloadn (aX11_find 14 rfl) rfl ?_
        refine pw_getr (v := .ref (base + 23)) (aX11_find 15 rfl) uf_RX11_35 un_RX11_35 (congrArg (fun r => va_rf (h_rf base r)) (q0_0 (hok).2.1)) ?_
        refine pw_getr (v := .ref (base + 43)) (aX11_find 16 rfl) uf_RX11_85 un_RX11_85 (congrArg (fun r => va_rf (h_rf base r)) (q23_3 (hok).2.1)) ?_
        refine pw_iloadn (aX11_find 17 rfl) rfl ?_
        refine pw_aaldr (c := 43) (ix := (a1).toInt.toNat) (aX11_find 18 rfl) rfl (fun _ => ?_)
        refine pw_lloadn (aX11_find 19 rfl) rfl ?_
        refine pw_lload (aX11_find 20 rfl) rfl ?_
        refine pw_iload (aX11_find 21 rfl) rfl ?_
        refine pw_callV (Bs := [va_rf (h_rf base (FR 43 (a1).toInt.toNat)), .long (a2), .long (a3), .int (a4)]) (L2 := [(0, .ref (base + 0)), (1, va_rf (h_rf base (FR 43 (a1).toInt.toNat))), (2, .long (a2)), (4, .long (a3)), (6, .int (a4))]) (rest := []) (aX11_find 22 rfl) um_RX11_136 ujX11_search wc_RX11_136.2.2.2.2 (by decide) (by decide) rfl (by first | rfl | simp [lv_args, va_cat, va_ci, va_cl, va_cr, va_cn]) (fun d => rX11_search hkb (FR 43 (a1).toInt.toNat) (a2) (a3) (a4) n sl SH FI FL FR hok) (fun v4 n4 sl4 SH4 FI4 FL4 FR4 hok4 _ => ?_)
        show pw _ _ _ _ _ _ _ 44 _ [.int (v4)] _ _
        exact pw_iret (aX11_find 23 rfl) hok4
    · skip
      refine pw_iconst (v := (-1 : Int32)) (aX11_find 11 rfl) rfl ?_
      exact pw_iret (aX11_find 12 rfl) hok
set_option maxHeartbeats 4000000 in
set_option maxRecDepth 100000 in
theorem rX11_where {sk : xK} {base N d : Nat} (hkb : x_kb sk base) (a1 : Int32) (a2 : Int64) (a3 : Int32) (n sl : Nat) (SH : Nat → Nat × Nat) (FI : Nat → Nat → Int32) (FL : Nat → Nat → Int64) (FR : Nat → Nat → Option Nat) (hok : pk n SH FR)  : pw pj_I sk base N d none 150 0 [(0, .ref (base + 0)), (1, .int (a1)), (2, .long (a2)), (4, .int (a3))] [] (n, sl, SH, FI, FL, FR) (RX11_where a1 a2 a3 n sl SH FI FL FR) := by
  unfold RX11_where
  refine pw_aloadn (aX11_where 0 rfl) rfl ?_
  refine pw_iloadn (aX11_where 1 rfl) rfl ?_
  refine pw_callV (Bs := [.int (a1)]) (rest := []) (aX11_where 2 rfl) um_RX11_256 ujX11_isVariable wc_RX11_256.2.2.2.2 (by decide) (by decide) rfl rfl (fun d => rX11_isVariable hkb (a1) n sl SH FI FL FR hok) (fun v0 n0 sl0 SH0 FI0 FL0 FR0 hok0 _ => ?_)
  show pw _ _ _ _ _ _ _ 5 _ [.int (v0)] _ _
  refine pw_ifeq (tgt := 16) (aX11_where 3 rfl) (by decide) (fun b1 => ?_) (fun b1 => ?_)
  · skip
    refine pw_iconst (v := (-1 : Int32)) (aX11_where 7 rfl) rfl ?_
    exact pw_iret (aX11_where 8 rfl) hok0
  · skip
    refine pw_iload (aX11_where 4 rfl) rfl ?_
    refine pw_cf (pw_callS (As := [.int (a3)]) (rest := []) (aX11_where 5 rfl) um_RX11_128 ujX11_isFuel wc_RX11_128.2.2.2.2 (by decide) rfl rfl (fun d => rX11_isFuel hkb (a3) n0 sl0 SH0 FI0 FL0 FR0 hok0) (fun v2 n2 sl2 SH2 FI2 FL2 FR2 _ hC => ?_))
    obtain ⟨rfl, hC⟩ := hC; cases hC
    show pw _ _ _ _ _ _ _ 13 _ [.int (fX11_isFuel (a3) SH0 FI0 FL0 FR0)] _ _
    refine pw_ifne (tgt := 18) (aX11_where 6 rfl) (by decide) (fun b3 => ?_) (fun b3 => ?_)
    · skip
      refine pw_iconst (v := (-1 : Int32)) (aX11_where 7 rfl) rfl ?_
      exact pw_iret (aX11_where 8 rfl) hok0
    · skip
      refine pw_aloadn (aX11_where 9 rfl) rfl ?_
      refine pw_getr (v := va_rf (h_rf base (FR0 0 11))) (aX11_where 10 rfl) uf_RX11_28 un_RX11_28 rfl ?_
      refine pw_iloadn (aX11_where 11 rfl) rfl ?_
      refine pw_aald (ix := (a1).toInt.toNat) (o := FR0 0 11) (aX11_where 12 rfl) rfl (fun c5 hc5 _ gc5 => ?_)
      refine pw_get (o := FR0 c5 (a1).toInt.toNat) (v := fun c6 => va_rf (h_rf base (FR0 c6 6))) (aX11_where 13 rfl) uf_RX11_250 un_RX11_250 (fun _ => rfl) (fun c6 hc6 _ tc6 => ?_)
      refine pw_astore (L2 := [(5, va_rf (h_rf base (FR0 c6 6))), (0, .ref (base + 0)), (1, .int (a1)), (2, .long (a2)), (4, .int (a3))]) (aX11_where 14 rfl) (by first | rfl | (simp [x_s1, x_s2, va_cat, va_ci, va_cl, va_cr, va_cn]; done) | (simp [x_s1, x_s2, va_cat, va_ci, va_cl, va_cr, va_cn]; decide)) ?_
      refine pw_aloadn (aX11_where 15 rfl) rfl ?_
      refine pw_getr (v := va_rf (h_rf base (FR0 0 11))) (aX11_where 16 rfl) uf_RX11_28 un_RX11_28 rfl ?_
      refine pw_iloadn (aX11_where 17 rfl) rfl ?_
      refine pw_aald (ix := (a1).toInt.toNat) (o := FR0 0 11) (aX11_where 18 rfl) rfl (fun c7 hc7 _ gc7 => ?_)
      refine pw_get (o := FR0 c7 (a1).toInt.toNat) (v := fun c8 => .int (FI0 c8 5)) (aX11_where 19 rfl) uf_RX11_259 un_RX11_259 (fun _ => rfl) (fun c8 hc8 _ tc8 => ?_)
      refine pw_ifne (tgt := 56) (aX11_where 20 rfl) (by decide) (fun b8 => ?_) (fun b8 => ?_)
      · skip
        refine pw_aloadn (aX11_where 21 rfl) rfl ?_
        refine pw_aload (aX11_where 22 rfl) rfl ?_
        refine pw_iconst (v := (0 : Int32)) (aX11_where 23 rfl) rfl ?_
        refine pw_aload (aX11_where 24 rfl) rfl ?_
        refine pw_alen hkb (o := FR0 c6 6) (aX11_where 25 rfl) (fun c10 hc10 _ => ?_)
        refine pw_iload (aX11_where 26 rfl) rfl ?_
        refine pw_callV (Bs := [va_rf (h_rf base (FR0 c6 6)), .int ((0 : Int32)), .int (Int32.ofNat (SH0 c10).2), .int (a3)]) (L2 := [(0, .ref (base + 0)), (1, va_rf (h_rf base (FR0 c6 6))), (2, .int ((0 : Int32))), (3, .int (Int32.ofNat (SH0 c10).2)), (4, .int (a3))]) (rest := []) (aX11_where 27 rfl) um_RX11_132 ujX11_runBytes wc_RX11_132.2.2.2.2 (by decide) (by decide) rfl (by first | rfl | simp [lv_args, va_cat, va_ci, va_cl, va_cr, va_cn]) (fun d => rX11_runBytes hkb (FR0 c6 6) ((0 : Int32)) (Int32.ofNat (SH0 c10).2) (a3) n0 sl0 SH0 FI0 FL0 FR0 hok0) (fun v10 n10 sl10 SH10 FI10 FL10 FR10 hok10 _ => ?_)
        show pw _ _ _ _ _ _ _ 53 _ [.int (v10)] _ _
        refine pw_goto (tgt := 66) (aX11_where 28 rfl) (by decide) ?_
        exact pw_iret (aX11_where 35 rfl) hok10
      · skip
        refine pw_aloadn (aX11_where 29 rfl) rfl ?_
        refine pw_aload (aX11_where 30 rfl) rfl ?_
        refine pw_lconst (v := (0 : Int64)) (aX11_where 31 rfl) rfl ?_
        refine pw_lloadn (aX11_where 32 rfl) rfl ?_
        refine pw_iload (aX11_where 33 rfl) rfl ?_
        refine pw_callV (Bs := [va_rf (h_rf base (FR0 c6 6)), .long ((0 : Int64)), .long (a2), .int (a3)]) (L2 := [(0, .ref (base + 0)), (1, va_rf (h_rf base (FR0 c6 6))), (2, .long ((0 : Int64))), (4, .long (a2)), (6, .int (a3))]) (rest := []) (aX11_where 34 rfl) um_RX11_136 ujX11_search wc_RX11_136.2.2.2.2 (by decide) (by decide) rfl (by first | rfl | simp [lv_args, va_cat, va_ci, va_cl, va_cr, va_cn]) (fun d => rX11_search hkb (FR0 c6 6) ((0 : Int64)) (a2) (a3) n0 sl0 SH0 FI0 FL0 FR0 hok0) (fun v11 n11 sl11 SH11 FI11 FL11 FR11 hok11 _ => ?_)
        show pw _ _ _ _ _ _ _ 66 _ [.int (v11)] _ _
        exact pw_iret (aX11_where 35 rfl) hok11
set_option maxHeartbeats 4000000 in
set_option maxRecDepth 100000 in
theorem rX11_load {sk : xK} {base N d : Nat} (hkb : x_kb sk base) (a1 : Int32) (a2 : Int64) (n sl : Nat) (SH : Nat → Nat × Nat) (FI : Nat → Nat → Int32) (FL : Nat → Nat → Int64) (FR : Nat → Nat → Option Nat) (hok : pk n SH FR)  : pw pj_I sk base N d none 124 0 [(0, .ref (base + 0)), (1, .int (a1)), (2, .long (a2))] [] (n, sl, SH, FI, FL, FR) (RX11_load a1 a2 n sl SH FI FL FR) := by
  unfold RX11_load
  refine pw_iloadn (aX11_load 0 rfl) rfl ?_
  refine pw_iflt (tgt := 16) (aX11_load 1 rfl) (by decide) (fun b0 => ?_) (fun b0 => ?_)
  · skip
    refine pw_iconst (v := (0 : Int32)) (aX11_load 8 rfl) rfl ?_
    exact pw_iret (aX11_load 9 rfl) hok
  · skip
    refine pw_iloadn (aX11_load 2 rfl) rfl ?_
    refine pw_aloadn (aX11_load 3 rfl) rfl ?_
    refine pw_getr (v := .ref (base + 23)) (aX11_load 4 rfl) uf_RX11_35 un_RX11_35 (congrArg (fun r => va_rf (h_rf base r)) (q0_0 (hok).2.1)) ?_
    refine pw_getr (v := .ref (base + 24)) (aX11_load 5 rfl) uf_RX11_94 un_RX11_94 (congrArg (fun r => va_rf (h_rf base r)) (q23_0 (hok).2.1)) ?_
    refine pw_alenr hkb (c := 24) (aX11_load 6 rfl) ?_
    refine pw_iclt (tgt := 18) (aX11_load 7 rfl) (by decide) (fun b1 => ?_) (fun b1 => ?_)
    · skip
      refine pw_aloadn (aX11_load 10 rfl) rfl ?_
      refine pw_getr (v := .ref (base + 23)) (aX11_load 11 rfl) uf_RX11_35 un_RX11_35 (congrArg (fun r => va_rf (h_rf base r)) (q0_0 (hok).2.1)) ?_
      refine pw_getr (v := .ref (base + 24)) (aX11_load 12 rfl) uf_RX11_94 un_RX11_94 (congrArg (fun r => va_rf (h_rf base r)) (q23_0 (hok).2.1)) ?_
      refine pw_iloadn (aX11_load 13 rfl) rfl ?_
      refine pw_lloadn (aX11_load 14 rfl) rfl ?_
      refine pw_lastr (c := 24) (ix := (a1).toInt.toNat) (aX11_load 15 rfl) rfl (fun _ => ?_)
      refine pw_iconst (v := (1 : Int32)) (aX11_load 16 rfl) rfl ?_
      exact pw_iret (aX11_load 17 rfl) hok
    · skip
      refine pw_iconst (v := (0 : Int32)) (aX11_load 8 rfl) rfl ?_
      exact pw_iret (aX11_load 9 rfl) hok
set_option maxHeartbeats 4000000 in
set_option maxRecDepth 100000 in
theorem rX11_register {sk : xK} {base N d : Nat} (hkb : x_kb sk base) (a1 : Int32) (n sl : Nat) (SH : Nat → Nat × Nat) (FI : Nat → Nat → Int32) (FL : Nat → Nat → Int64) (FR : Nat → Nat → Option Nat) (hok : pk n SH FR)  : pw pj_J sk base N d none 125 0 [(0, .ref (base + 0)), (1, .int (a1))] [] (n, sl, SH, FI, FL, FR) (P_ret (fX11_register a1 SH FI FL FR) (n, sl, SH, FI, FL, FR)) := by
  unfold fX11_register
  refine pw_aloadn (aX11_register 0 rfl) rfl ?_
  refine pw_getr (v := .ref (base + 23)) (aX11_register 1 rfl) uf_RX11_35 un_RX11_35 (congrArg (fun r => va_rf (h_rf base r)) (q0_0 (hok).2.1)) ?_
  refine pw_iloadn (aX11_register 2 rfl) rfl ?_
  refine pw_i2l (aX11_register 3 rfl) ?_
  refine pw_cf (pw_callV (Bs := [.long ((a1).toInt64)]) (rest := []) (aX11_register 4 rfl) um_RX11_98 ujX1_registerValue wc_RX11_98.2.2.2.2 (by decide) (by decide) rfl rfl (fun d => rX1_registerValue hkb ((a1).toInt64) n sl SH FI FL FR hok) (fun v0 n0 sl0 SH0 FI0 FL0 FR0 _ hC => ?_))
  obtain ⟨rfl, hC⟩ := hC; cases hC
  show pw _ _ _ _ _ _ _ 9 _ [.long (fX1_registerValue ((a1).toInt64) SH FI FL FR)] _ _
  exact pw_lret (aX11_register 5 rfl) hok
set_option maxHeartbeats 4000000 in
set_option maxRecDepth 100000 in
theorem rX11_poke {sk : xK} {base N d : Nat} (hkb : x_kb sk base) (a1 : Int32) (a2 : Int32) (n sl : Nat) (SH : Nat → Nat × Nat) (FI : Nat → Nat → Int32) (FL : Nat → Nat → Int64) (FR : Nat → Nat → Option Nat) (hok : pk n SH FR)  : pw pj_I sk base N d none 126 0 [(0, .ref (base + 0)), (1, .int (a1)), (2, .int (a2))] [] (n, sl, SH, FI, FL, FR) (RX11_poke a1 a2 n sl SH FI FL FR) := by
  unfold RX11_poke
  refine pw_iloadn (aX11_poke 0 rfl) rfl ?_
  refine pw_iflt (tgt := 16) (aX11_poke 1 rfl) (by decide) (fun b0 => ?_) (fun b0 => ?_)
  · skip
    refine pw_iconst (v := (0 : Int32)) (aX11_poke 8 rfl) rfl ?_
    exact pw_iret (aX11_poke 9 rfl) hok
  · skip
    refine pw_iloadn (aX11_poke 2 rfl) rfl ?_
    refine pw_aloadn (aX11_poke 3 rfl) rfl ?_
    refine pw_getr (v := .ref (base + 23)) (aX11_poke 4 rfl) uf_RX11_35 un_RX11_35 (congrArg (fun r => va_rf (h_rf base r)) (q0_0 (hok).2.1)) ?_
    refine pw_getr (v := .ref (base + 25)) (aX11_poke 5 rfl) uf_RX11_102 un_RX11_102 (congrArg (fun r => va_rf (h_rf base r)) (q23_1 (hok).2.1)) ?_
    refine pw_alenr hkb (c := 25) (aX11_poke 6 rfl) ?_
    refine pw_iclt (tgt := 18) (aX11_poke 7 rfl) (by decide) (fun b1 => ?_) (fun b1 => ?_)
    · skip
      refine pw_aloadn (aX11_poke 10 rfl) rfl ?_
      refine pw_getr (v := .ref (base + 23)) (aX11_poke 11 rfl) uf_RX11_35 un_RX11_35 (congrArg (fun r => va_rf (h_rf base r)) (q0_0 (hok).2.1)) ?_
      refine pw_getr (v := .ref (base + 25)) (aX11_poke 12 rfl) uf_RX11_102 un_RX11_102 (congrArg (fun r => va_rf (h_rf base r)) (q23_1 (hok).2.1)) ?_
      refine pw_iloadn (aX11_poke 13 rfl) rfl ?_
      refine pw_iloadn (aX11_poke 14 rfl) rfl ?_
      refine pw_sipush (v := (255 : Int32)) (aX11_poke 15 rfl) rfl ?_
      refine pw_iand (aX11_poke 16 rfl) ?_
      refine pw_iastr (c := 25) (ix := (a1).toInt.toNat) (aX11_poke 17 rfl) rfl (fun _ => ?_)
      refine pw_iconst (v := (1 : Int32)) (aX11_poke 18 rfl) rfl ?_
      exact pw_iret (aX11_poke 19 rfl) hok
    · skip
      refine pw_iconst (v := (0 : Int32)) (aX11_poke 8 rfl) rfl ?_
      exact pw_iret (aX11_poke 9 rfl) hok
set_option maxHeartbeats 4000000 in
set_option maxRecDepth 100000 in
theorem rX11_peek {sk : xK} {base N d : Nat} (hkb : x_kb sk base) (a1 : Int32) (n sl : Nat) (SH : Nat → Nat × Nat) (FI : Nat → Nat → Int32) (FL : Nat → Nat → Int64) (FR : Nat → Nat → Option Nat) (hok : pk n SH FR)  : pw pj_I sk base N d none 127 0 [(0, .ref (base + 0)), (1, .int (a1))] [] (n, sl, SH, FI, FL, FR) (P_ret (fX11_peek a1 SH FI FL FR) (n, sl, SH, FI, FL, FR)) := by
  unfold fX11_peek
  refine pw_iloadn (aX11_peek 0 rfl) rfl ?_
  refine pw_ite (pw_iflt (tgt := 16) (aX11_peek 1 rfl) (by decide) (fun b0 => ?_) (fun b0 => ?_))
  · skip
    refine pw_iconst (v := (-1 : Int32)) (aX11_peek 8 rfl) rfl ?_
    refine pw_goto (tgt := 29) (aX11_peek 9 rfl) (by decide) ?_
    exact pw_iret (aX11_peek 15 rfl) hok
  · skip
    refine pw_iloadn (aX11_peek 2 rfl) rfl ?_
    refine pw_aloadn (aX11_peek 3 rfl) rfl ?_
    refine pw_getr (v := .ref (base + 23)) (aX11_peek 4 rfl) uf_RX11_35 un_RX11_35 (congrArg (fun r => va_rf (h_rf base r)) (q0_0 (hok).2.1)) ?_
    refine pw_getr (v := .ref (base + 25)) (aX11_peek 5 rfl) uf_RX11_102 un_RX11_102 (congrArg (fun r => va_rf (h_rf base r)) (q23_1 (hok).2.1)) ?_
    refine pw_alenr hkb (c := 25) (aX11_peek 6 rfl) ?_
    refine pw_ite (pw_iclt (tgt := 20) (aX11_peek 7 rfl) (by decide) (fun b1 => ?_) (fun b1 => ?_))
    · skip
      refine pw_aloadn (aX11_peek 10 rfl) rfl ?_
      refine pw_getr (v := .ref (base + 23)) (aX11_peek 11 rfl) uf_RX11_35 un_RX11_35 (congrArg (fun r => va_rf (h_rf base r)) (q0_0 (hok).2.1)) ?_
      refine pw_getr (v := .ref (base + 25)) (aX11_peek 12 rfl) uf_RX11_102 un_RX11_102 (congrArg (fun r => va_rf (h_rf base r)) (q23_1 (hok).2.1)) ?_
      refine pw_iloadn (aX11_peek 13 rfl) rfl ?_
      refine pw_sd (pw_ialdr (c := 25) (ix := (a1).toInt.toNat) (aX11_peek 14 rfl) rfl (fun _ => ?_))
      exact pw_iret (aX11_peek 15 rfl) hok
    · skip
      refine pw_iconst (v := (-1 : Int32)) (aX11_peek 8 rfl) rfl ?_
      refine pw_goto (tgt := 29) (aX11_peek 9 rfl) (by decide) ?_
      exact pw_iret (aX11_peek 15 rfl) hok
set_option maxHeartbeats 4000000 in
set_option maxRecDepth 100000 in
theorem rX11_frame {sk : xK} {base N d : Nat} (hkb : x_kb sk base) (a1 : Int32) (n sl : Nat) (SH : Nat → Nat × Nat) (FI : Nat → Nat → Int32) (FL : Nat → Nat → Int64) (FR : Nat → Nat → Option Nat) (hok : pk n SH FR)  : pw pj_I sk base N d none 128 0 [(0, .ref (base + 0)), (1, .int (a1))] [] (n, sl, SH, FI, FL, FR) (RX11_frame a1 n sl SH FI FL FR) := by
  unfold RX11_frame
  refine pw_iloadn (aX11_frame 0 rfl) rfl ?_
  refine pw_iconst (v := (-1 : Int32)) (aX11_frame 1 rfl) rfl ?_
  refine pw_iclt (tgt := 17) (aX11_frame 2 rfl) (by decide) (fun b0 => ?_) (fun b0 => ?_)
  · skip
    refine pw_iconst (v := (0 : Int32)) (aX11_frame 9 rfl) rfl ?_
    exact pw_iret (aX11_frame 10 rfl) hok
  · skip
    refine pw_iloadn (aX11_frame 3 rfl) rfl ?_
    refine pw_aloadn (aX11_frame 4 rfl) rfl ?_
    refine pw_getr (v := .ref (base + 23)) (aX11_frame 5 rfl) uf_RX11_35 un_RX11_35 (congrArg (fun r => va_rf (h_rf base r)) (q0_0 (hok).2.1)) ?_
    refine pw_getr (v := .ref (base + 26)) (aX11_frame 6 rfl) uf_RX11_77 un_RX11_77 (congrArg (fun r => va_rf (h_rf base r)) (q23_2 (hok).2.1)) ?_
    refine pw_alenr hkb (c := 26) (aX11_frame 7 rfl) ?_
    refine pw_iclt (tgt := 19) (aX11_frame 8 rfl) (by decide) (fun b1 => ?_) (fun b1 => ?_)
    · skip
      refine pw_aloadn (aX11_frame 11 rfl) rfl ?_
      refine pw_getr (v := .ref (base + 23)) (aX11_frame 12 rfl) uf_RX11_35 un_RX11_35 (congrArg (fun r => va_rf (h_rf base r)) (q0_0 (hok).2.1)) ?_
      refine pw_iloadn (aX11_frame 13 rfl) rfl ?_
      refine pw_putri (aX11_frame 14 rfl) uf_RX11_105 (fun _ _ _ => rfl) (fun t3 => ?_)
      refine pw_iconst (v := (1 : Int32)) (aX11_frame 15 rfl) rfl ?_
      exact pw_iret (aX11_frame 16 rfl) hok
    · skip
      refine pw_iconst (v := (0 : Int32)) (aX11_frame 9 rfl) rfl ?_
      exact pw_iret (aX11_frame 10 rfl) hok
set_option maxHeartbeats 4000000 in
set_option maxRecDepth 100000 in
theorem rX11_cfa {sk : xK} {base N d : Nat} (hkb : x_kb sk base) (a1 : Int32) (a2 : Int64) (n sl : Nat) (SH : Nat → Nat × Nat) (FI : Nat → Nat → Int32) (FL : Nat → Nat → Int64) (FR : Nat → Nat → Option Nat) (hok : pk n SH FR)  : pw pj_I sk base N d none 129 0 [(0, .ref (base + 0)), (1, .int (a1)), (2, .long (a2))] [] (n, sl, SH, FI, FL, FR) (RX11_cfa a1 a2 n sl SH FI FL FR) := by
  unfold RX11_cfa
  refine pw_iloadn (aX11_cfa 0 rfl) rfl ?_
  refine pw_iconst (v := (-1 : Int32)) (aX11_cfa 1 rfl) rfl ?_
  refine pw_iclt (tgt := 17) (aX11_cfa 2 rfl) (by decide) (fun b0 => ?_) (fun b0 => ?_)
  · skip
    refine pw_iconst (v := (0 : Int32)) (aX11_cfa 9 rfl) rfl ?_
    exact pw_iret (aX11_cfa 10 rfl) hok
  · skip
    refine pw_iloadn (aX11_cfa 3 rfl) rfl ?_
    refine pw_aloadn (aX11_cfa 4 rfl) rfl ?_
    refine pw_getr (v := .ref (base + 23)) (aX11_cfa 5 rfl) uf_RX11_35 un_RX11_35 (congrArg (fun r => va_rf (h_rf base r)) (q0_0 (hok).2.1)) ?_
    refine pw_getr (v := .ref (base + 24)) (aX11_cfa 6 rfl) uf_RX11_94 un_RX11_94 (congrArg (fun r => va_rf (h_rf base r)) (q23_0 (hok).2.1)) ?_
    refine pw_alenr hkb (c := 24) (aX11_cfa 7 rfl) ?_
    refine pw_iclt (tgt := 19) (aX11_cfa 8 rfl) (by decide) (fun b1 => ?_) (fun b1 => ?_)
    · skip
      refine pw_aloadn (aX11_cfa 11 rfl) rfl ?_
      refine pw_getr (v := .ref (base + 23)) (aX11_cfa 12 rfl) uf_RX11_35 un_RX11_35 (congrArg (fun r => va_rf (h_rf base r)) (q0_0 (hok).2.1)) ?_
      refine pw_iloadn (aX11_cfa 13 rfl) rfl ?_
      refine pw_putri (aX11_cfa 14 rfl) uf_RX11_108 (fun _ _ _ => rfl) (fun t3 => ?_)
      refine pw_aloadn (aX11_cfa 15 rfl) rfl ?_
      refine pw_getr (v := .ref (base + 23)) (aX11_cfa 16 rfl) uf_RX11_35 un_RX11_35 (congrArg (fun r => va_rf (h_rf base r)) (q0_0 (hok).2.1)) ?_
      refine pw_lloadn (aX11_cfa 17 rfl) rfl ?_
      refine pw_putrl (aX11_cfa 18 rfl) uf_RX11_111 (fun _ _ _ => rfl) (fun t4 => ?_)
      refine pw_iconst (v := (1 : Int32)) (aX11_cfa 19 rfl) rfl ?_
      exact pw_iret (aX11_cfa 20 rfl) hok
    · skip
      refine pw_iconst (v := (0 : Int32)) (aX11_cfa 9 rfl) rfl ?_
      exact pw_iret (aX11_cfa 10 rfl) hok
set_option maxHeartbeats 4000000 in
set_option maxRecDepth 100000 in
theorem rX11_set {sk : xK} {base N d : Nat} (hkb : x_kb sk base) (a1 : Int32) (a2 : Int64) (a3 : Int32) (n sl : Nat) (SH : Nat → Nat × Nat) (FI : Nat → Nat → Int32) (FL : Nat → Nat → Int64) (FR : Nat → Nat → Option Nat) (hok : pk n SH FR)  : pw pj_I sk base N d none 130 0 [(0, .ref (base + 0)), (1, .int (a1)), (2, .long (a2)), (4, .int (a3))] [] (n, sl, SH, FI, FL, FR) (RX11_set a1 a2 a3 n sl SH FI FL FR) := by
  unfold RX11_set
  refine pw_iloadn (aX11_set 0 rfl) rfl ?_
  refine pw_ifne (tgt := 23) (aX11_set 1 rfl) (by decide) (fun b0 => ?_) (fun b0 => ?_)
  · skip
    refine pw_aloadn (aX11_set 2 rfl) rfl ?_
    refine pw_getr (v := .ref (base + 23)) (aX11_set 3 rfl) uf_RX11_35 un_RX11_35 (congrArg (fun r => va_rf (h_rf base r)) (q0_0 (hok).2.1)) ?_
    refine pw_lloadn (aX11_set 4 rfl) rfl ?_
    refine pw_putrl (aX11_set 5 rfl) uf_RX11_115 (fun _ _ _ => rfl) (fun t2 => ?_)
    refine pw_aloadn (aX11_set 6 rfl) rfl ?_
    refine pw_getr (v := .ref (base + 23)) (aX11_set 7 rfl) uf_RX11_35 un_RX11_35 (congrArg (fun r => va_rf (h_rf base r)) (q0_0 (hok).2.1)) ?_
    refine pw_iload (aX11_set 8 rfl) rfl ?_
    refine pw_putri (aX11_set 9 rfl) uf_RX11_118 (fun _ _ _ => rfl) (fun t3 => ?_)
    refine pw_iconst (v := (1 : Int32)) (aX11_set 10 rfl) rfl ?_
    exact pw_iret (aX11_set 11 rfl) hok
  · skip
    refine pw_iloadn (aX11_set 12 rfl) rfl ?_
    refine pw_iconst (v := (1 : Int32)) (aX11_set 13 rfl) rfl ?_
    refine pw_icne (tgt := 47) (aX11_set 14 rfl) (by decide) (fun b3 => ?_) (fun b3 => ?_)
    · skip
      refine pw_aloadn (aX11_set 15 rfl) rfl ?_
      refine pw_getr (v := .ref (base + 23)) (aX11_set 16 rfl) uf_RX11_35 un_RX11_35 (congrArg (fun r => va_rf (h_rf base r)) (q0_0 (hok).2.1)) ?_
      refine pw_lloadn (aX11_set 17 rfl) rfl ?_
      refine pw_putrl (aX11_set 18 rfl) uf_RX11_122 (fun _ _ _ => rfl) (fun t5 => ?_)
      refine pw_aloadn (aX11_set 19 rfl) rfl ?_
      refine pw_getr (v := .ref (base + 23)) (aX11_set 20 rfl) uf_RX11_35 un_RX11_35 (congrArg (fun r => va_rf (h_rf base r)) (q0_0 (hok).2.1)) ?_
      refine pw_iload (aX11_set 21 rfl) rfl ?_
      refine pw_putri (aX11_set 22 rfl) uf_RX11_125 (fun _ _ _ => rfl) (fun t6 => ?_)
      refine pw_iconst (v := (1 : Int32)) (aX11_set 23 rfl) rfl ?_
      exact pw_iret (aX11_set 24 rfl) hok
    · skip
      refine pw_iconst (v := (0 : Int32)) (aX11_set 25 rfl) rfl ?_
      exact pw_iret (aX11_set 26 rfl) hok
set_option maxHeartbeats 4000000 in
set_option maxRecDepth 100000 in
theorem rX11_told {sk : xK} {base N d : Nat} (hkb : x_kb sk base) (a1 : Int32) (n sl : Nat) (SH : Nat → Nat × Nat) (FI : Nat → Nat → Int32) (FL : Nat → Nat → Int64) (FR : Nat → Nat → Option Nat) (hok : pk n SH FR)  : pw pj_I sk base N d none 140 0 [(0, .ref (base + 0)), (1, .int (a1))] [] (n, sl, SH, FI, FL, FR) (P_ret (fX11_told a1 SH FI FL FR) (n, sl, SH, FI, FL, FR)) := by
  unfold fX11_told
  refine pw_iloadn (aX11_told 0 rfl) rfl ?_
  refine pw_ite (pw_iflt (tgt := 13) (aX11_told 1 rfl) (by decide) (fun b0 => ?_) (fun b0 => ?_))
  · skip
    refine pw_iconst (v := (-1 : Int32)) (aX11_told 7 rfl) rfl ?_
    refine pw_goto (tgt := 23) (aX11_told 8 rfl) (by decide) ?_
    exact pw_iret (aX11_told 13 rfl) hok
  · skip
    refine pw_iloadn (aX11_told 2 rfl) rfl ?_
    refine pw_aloadn (aX11_told 3 rfl) rfl ?_
    refine pw_getr (v := .ref (base + 21)) (aX11_told 4 rfl) uf_RX11_23 un_RX11_23 (congrArg (fun r => va_rf (h_rf base r)) (q0_8 (hok).2.1)) ?_
    refine pw_alenr hkb (c := 21) (aX11_told 5 rfl) ?_
    refine pw_ite (pw_iclt (tgt := 17) (aX11_told 6 rfl) (by decide) (fun b1 => ?_) (fun b1 => ?_))
    · skip
      refine pw_aloadn (aX11_told 9 rfl) rfl ?_
      refine pw_getr (v := .ref (base + 21)) (aX11_told 10 rfl) uf_RX11_23 un_RX11_23 (congrArg (fun r => va_rf (h_rf base r)) (q0_8 (hok).2.1)) ?_
      refine pw_iloadn (aX11_told 11 rfl) rfl ?_
      refine pw_sd (pw_ialdr (c := 21) (ix := (a1).toInt.toNat) (aX11_told 12 rfl) rfl (fun _ => ?_))
      exact pw_iret (aX11_told 13 rfl) hok
    · skip
      refine pw_iconst (v := (-1 : Int32)) (aX11_told 7 rfl) rfl ?_
      refine pw_goto (tgt := 23) (aX11_told 8 rfl) (by decide) ?_
      exact pw_iret (aX11_told 13 rfl) hok
set_option maxHeartbeats 4000000 in
set_option maxRecDepth 100000 in
theorem rX11_parts {sk : xK} {base N d : Nat} (hkb : x_kb sk base)  (n sl : Nat) (SH : Nat → Nat × Nat) (FI : Nat → Nat → Int32) (FL : Nat → Nat → Int64) (FR : Nat → Nat → Option Nat) (hok : pk n SH FR)  : pw pj_I sk base N d none 141 0 [(0, .ref (base + 0))] [] (n, sl, SH, FI, FL, FR) (P_ret (fX11_parts  SH FI FL FR) (n, sl, SH, FI, FL, FR)) := by
  unfold fX11_parts
  refine pw_aloadn (aX11_parts 0 rfl) rfl ?_
  refine pw_getr (v := .ref (base + 1)) (aX11_parts 1 rfl) uf_RX11_10 un_RX11_10 (congrArg (fun r => va_rf (h_rf base r)) (q0_5 (hok).2.1)) ?_
  refine pw_cf (pw_callV (Bs := []) (rest := []) (aX11_parts 2 rfl) um_RX11_184 ujX8_count wc_RX11_184.2.2.2.2 (by decide) (by decide) rfl rfl (fun d => rX8_count hkb 1 n sl SH FI FL FR hok) (fun v0 n0 sl0 SH0 FI0 FL0 FR0 _ hC => ?_))
  obtain ⟨rfl, hC⟩ := hC; cases hC
  show pw _ _ _ _ _ _ _ 7 _ [.int (fX8_count 1 SH FI FL FR)] _ _
  exact pw_iret (aX11_parts 3 rfl) hok
set_option maxHeartbeats 4000000 in
set_option maxRecDepth 100000 in
theorem rX11_part {sk : xK} {base N d : Nat} (hkb : x_kb sk base) (a1 : Int32) (a2 : Int32) (n sl : Nat) (SH : Nat → Nat × Nat) (FI : Nat → Nat → Int32) (FL : Nat → Nat → Int64) (FR : Nat → Nat → Option Nat) (hok : pk n SH FR)  : pw pj_J sk base N d none 142 0 [(0, .ref (base + 0)), (1, .int (a1)), (2, .int (a2))] [] (n, sl, SH, FI, FL, FR) (RX11_part a1 a2 n sl SH FI FL FR) := by
  unfold RX11_part
  refine pw_iloadn (aX11_part 0 rfl) rfl ?_
  refine pw_iflt (tgt := 15) (aX11_part 1 rfl) (by decide) (fun b0 => ?_) (fun b0 => ?_)
  · skip
    refine pw_ldc2 (v := (-1 : Int64)) (aX11_part 7 rfl) uk_RX11_171 ?_
    exact pw_lret (aX11_part 8 rfl) hok
  · skip
    refine pw_iloadn (aX11_part 2 rfl) rfl ?_
    refine pw_aloadn (aX11_part 3 rfl) rfl ?_
    refine pw_getr (v := .ref (base + 1)) (aX11_part 4 rfl) uf_RX11_10 un_RX11_10 (congrArg (fun r => va_rf (h_rf base r)) (q0_5 (hok).2.1)) ?_
    refine pw_cf (pw_callV (Bs := []) (rest := [.int (a1)]) (aX11_part 5 rfl) um_RX11_184 ujX8_count wc_RX11_184.2.2.2.2 (by decide) (by decide) rfl rfl (fun d => rX8_count hkb 1 n sl SH FI FL FR hok) (fun v1 n1 sl1 SH1 FI1 FL1 FR1 _ hC => ?_))
    obtain ⟨rfl, hC⟩ := hC; cases hC
    show pw _ _ _ _ _ _ _ 12 _ [.int (fX8_count 1 SH FI FL FR), .int (a1)] _ _
    refine pw_iclt (tgt := 19) (aX11_part 6 rfl) (by decide) (fun b2 => ?_) (fun b2 => ?_)
    · skip
      refine pw_aloadn (aX11_part 9 rfl) rfl ?_
      refine pw_getr (v := .ref (base + 1)) (aX11_part 10 rfl) uf_RX11_10 un_RX11_10 (congrArg (fun r => va_rf (h_rf base r)) (q0_5 (hok).2.1)) ?_
      refine pw_getr (v := .ref (base + 2)) (aX11_part 11 rfl) uf_RX11_188 un_RX11_188 (congrArg (fun r => va_rf (h_rf base r)) (q1_0 (hok).2.1)) ?_
      refine pw_iloadn (aX11_part 12 rfl) rfl ?_
      refine pw_aaldr (c := 2) (ix := (a1).toInt.toNat) (aX11_part 13 rfl) rfl (fun _ => ?_)
      refine pw_astoren (L2 := [(3, va_rf (h_rf base (FR 2 (a1).toInt.toNat))), (0, .ref (base + 0)), (1, .int (a1)), (2, .int (a2))]) (aX11_part 14 rfl) (by first | rfl | (simp [x_s1, x_s2, va_cat, va_ci, va_cl, va_cr, va_cn]; done) | (simp [x_s1, x_s2, va_cat, va_ci, va_cl, va_cr, va_cn]; decide)) ?_
      refine pw_iloadn (aX11_part 15 rfl) rfl ?_
      refine pw_tsw aX11_part_30 (fun tg ht => ?_)
      refine pw_case ((a2).toInt = 0) (fun b4 => ?_) (fun b4 => ?_)
      · have et : tg = 60 := by
          rcases ht with ⟨h8, -⟩ | ⟨-, -, off, ho, ht⟩; { exact absurd h8 (by omega) }; { rw [b4] at ho; have e9 : off = (30 : Int) := (Option.some.inj (show some (30 : Int) = some off from ho)).symm; omega }
        subst et
        refine pw_aloadn (aX11_part 16 rfl) rfl ?_
        refine pw_get (o := FR 2 (a1).toInt.toNat) (v := fun c5 => .int (FI c5 0)) (aX11_part 17 rfl) uf_RX11_192 un_RX11_192 (fun _ => rfl) (fun c5 hc5 _ tc5 => ?_)
        refine pw_i2l (aX11_part 18 rfl) ?_
        exact pw_lret (aX11_part 19 rfl) hok
      skip
      refine pw_case ((a2).toInt = 1) (fun b6 => ?_) (fun b6 => ?_)
      · have et : tg = 66 := by
          rcases ht with ⟨h8, -⟩ | ⟨-, -, off, ho, ht⟩; { exact absurd h8 (by omega) }; { rw [b6] at ho; have e9 : off = (36 : Int) := (Option.some.inj (show some (36 : Int) = some off from ho)).symm; omega }
        subst et
        refine pw_aloadn (aX11_part 20 rfl) rfl ?_
        refine pw_get (o := FR 2 (a1).toInt.toNat) (v := fun c7 => .long (FL c7 1)) (aX11_part 21 rfl) uf_RX11_197 un_RX11_197 (fun _ => rfl) (fun c7 hc7 _ tc7 => ?_)
        exact pw_lret (aX11_part 22 rfl) hok
      skip
      refine pw_case ((a2).toInt = 2) (fun b8 => ?_) (fun b8 => ?_)
      · have et : tg = 71 := by
          rcases ht with ⟨h8, -⟩ | ⟨-, -, off, ho, ht⟩; { exact absurd h8 (by omega) }; { rw [b8] at ho; have e9 : off = (41 : Int) := (Option.some.inj (show some (41 : Int) = some off from ho)).symm; omega }
        subst et
        refine pw_aloadn (aX11_part 23 rfl) rfl ?_
        refine pw_get (o := FR 2 (a1).toInt.toNat) (v := fun c9 => .int (FI c9 2)) (aX11_part 24 rfl) uf_RX11_199 un_RX11_199 (fun _ => rfl) (fun c9 hc9 _ tc9 => ?_)
        refine pw_i2l (aX11_part 25 rfl) ?_
        exact pw_lret (aX11_part 26 rfl) hok
      skip
      refine pw_case ((a2).toInt = 3) (fun b10 => ?_) (fun b10 => ?_)
      · have et : tg = 77 := by
          rcases ht with ⟨h8, -⟩ | ⟨-, -, off, ho, ht⟩; { exact absurd h8 (by omega) }; { rw [b10] at ho; have e9 : off = (47 : Int) := (Option.some.inj (show some (47 : Int) = some off from ho)).symm; omega }
        subst et
        refine pw_aloadn (aX11_part 27 rfl) rfl ?_
        refine pw_get (o := FR 2 (a1).toInt.toNat) (v := fun c11 => .int (FI c11 3)) (aX11_part 28 rfl) uf_RX11_202 un_RX11_202 (fun _ => rfl) (fun c11 hc11 _ tc11 => ?_)
        refine pw_i2l (aX11_part 29 rfl) ?_
        exact pw_lret (aX11_part 30 rfl) hok
      skip
      have et : tg = 83 := by
        rcases ht with ⟨-, h8⟩ | ⟨h1, h2, -⟩; { omega }; { exfalso; omega }
      subst et
      refine pw_aloadn (aX11_part 31 rfl) rfl ?_
      refine pw_iloadn (aX11_part 32 rfl) rfl ?_
      refine pw_i2l (aX11_part 33 rfl) ?_
      refine pw_ldc2 (v := (100 : Int64)) (aX11_part 34 rfl) uk_RX11_205 ?_
      refine pw_lsub (aX11_part 35 rfl) ?_
      refine pw_callVo (o := FR 2 (a1).toInt.toNat) (Bs := [.long (((a2).toInt64) - ((100 : Int64)))]) (rest := []) (aX11_part 36 rfl) um_RX11_207 ujX5_blockByte wc_RX11_207.2.2.2.2 (by decide) (by decide) rfl (fun _ => rfl) (fun c12 hc12 d => rX5_blockByte hkb c12 (((a2).toInt64) - ((100 : Int64))) n sl SH FI FL FR hok) (fun c12 hc12 v12 n12 sl12 SH12 FI12 FL12 FR12 hok12 _ => ?_)
      show pw _ _ _ _ _ _ _ 93 _ [.int (v12)] _ _
      refine pw_i2l (aX11_part 37 rfl) ?_
      exact pw_lret (aX11_part 38 rfl) hok12
    · skip
      refine pw_ldc2 (v := (-1 : Int64)) (aX11_part 7 rfl) uk_RX11_171 ?_
      exact pw_lret (aX11_part 8 rfl) hok
set_option maxHeartbeats 4000000 in
set_option maxRecDepth 100000 in
theorem rX11_fetch_147 {sk : xK} {base N d : Nat} {K40 : Int32 → Int32 → Int32 → Nat → Nat → (Nat → Nat × Nat) → (Nat → Nat → Int32) → (Nat → Nat → Int64) → (Nat → Nat → Option Nat) → Int32 → hS → Prop} {K88 : Int32 → Int32 → Int32 → Option Nat → Int32 → Int32 → Nat → Nat → (Nat → Nat × Nat) → (Nat → Nat → Int32) → (Nat → Nat → Int64) → (Nat → Nat → Option Nat) → Int32 → hS → Prop} (hkb : x_kb sk base) (a1 : Int32) (l2i : Int32) (l3i : Int32) (l4i : Int32) (l5o : Option Nat) (l6i : Int32) (l7i : Int32) (l8i : Int32) (n sl : Nat) (SH : Nat → Nat × Nat) (FI : Nat → Nat → Int32) (FL : Nat → Nat → Int64) (FR : Nat → Nat → Option Nat) (hok : pk n SH FR)  (hK40 : ∀ (l2i : Int32) (l3i : Int32) (l4i : Int32) (l5o : Option Nat) (l6i : Int32) (l7i : Int32) (l8i : Int32) (n sl : Nat) (SH : Nat → Nat × Nat) (FI : Nat → Nat → Int32) (FL : Nat → Nat → Int64) (FR : Nat → Nat → Option Nat), pk n SH FR → pw pj_I sk base N d none 143 40 [(0, .ref (base + 0)), (1, .int (a1)), (2, .int (l2i)), (3, .int (l3i)), (4, .int (l4i)), (5, va_rf (h_rf base (l5o))), (6, .int (l6i)), (7, .int (l7i)), (8, .int (l8i))] [] (n, sl, SH, FI, FL, FR) (K40 l2i l3i l4i n sl SH FI FL FR)) (hK88 : ∀ (l2i : Int32) (l3i : Int32) (l4i : Int32) (l5o : Option Nat) (l6i : Int32) (l7i : Int32) (l8i : Int32) (n sl : Nat) (SH : Nat → Nat × Nat) (FI : Nat → Nat → Int32) (FL : Nat → Nat → Int64) (FR : Nat → Nat → Option Nat), pk n SH FR → pw pj_I sk base N d none 143 88 [(0, .ref (base + 0)), (1, .int (a1)), (2, .int (l2i)), (3, .int (l3i)), (4, .int (l4i)), (5, va_rf (h_rf base (l5o))), (6, .int (l6i)), (7, .int (l7i)), (8, .int (l8i))] [] (n, sl, SH, FI, FL, FR) (K88 l2i l3i l4i l5o l6i l7i n sl SH FI FL FR)) : pw pj_I sk base N d none 143 147 [(0, .ref (base + 0)), (1, .int (a1)), (2, .int (l2i)), (3, .int (l3i)), (4, .int (l4i)), (5, va_rf (h_rf base (l5o))), (6, .int (l6i)), (7, .int (l7i)), (8, .int (l8i))] [] (n, sl, SH, FI, FL, FR) (RX11_fetch_147 K40 K88 a1 l2i l3i l4i l5o l6i l7i n sl SH FI FL FR) := by
  unfold RX11_fetch_147
  refine pw_iinc (v := (l3i) + (1 : Int32)) (L2 := [(3, .int ((l3i) + (1 : Int32))), (0, .ref (base + 0)), (1, .int (a1)), (2, .int (l2i)), (4, .int (l4i)), (5, va_rf (h_rf base (l5o))), (6, .int (l6i)), (7, .int (l7i)), (8, .int (l8i))]) (aX11_fetch 80 rfl) rfl rfl (by first | rfl | (simp [x_s1, x_s2, va_cat, va_ci, va_cl, va_cr, va_cn]; done) | (simp [x_s1, x_s2, va_cat, va_ci, va_cl, va_cr, va_cn]; decide)) ?_
  refine pw_iinc (v := (l7i) + (1 : Int32)) (L2 := [(7, .int ((l7i) + (1 : Int32))), (3, .int ((l3i) + (1 : Int32))), (0, .ref (base + 0)), (1, .int (a1)), (2, .int (l2i)), (4, .int (l4i)), (5, va_rf (h_rf base (l5o))), (6, .int (l6i)), (8, .int (l8i))]) (aX11_fetch 81 rfl) rfl rfl (by first | rfl | (simp [x_s1, x_s2, va_cat, va_ci, va_cl, va_cr, va_cn]; done) | (simp [x_s1, x_s2, va_cat, va_ci, va_cl, va_cr, va_cn]; decide)) ?_
  refine pw_goto (tgt := 88) (aX11_fetch 82 rfl) (by decide) ?_
  exact pw_Li (L2 := [(0, .ref (base + 0)), (1, .int (a1)), (2, .int (l2i)), (3, .int ((l3i) + (1 : Int32))), (4, .int (l4i)), (5, va_rf (h_rf base (l5o))), (6, .int (l6i)), (7, .int ((l7i) + (1 : Int32))), (8, .int (l8i))]) [7, 3, 0, 1, 2, 4, 5, 6, 8] (hK88 (l2i) ((l3i) + (1 : Int32)) (l4i) (l5o) (l6i) ((l7i) + (1 : Int32)) (l8i) n sl SH FI FL FR hok) ⟨rfl, rfl, rfl, rfl, rfl, rfl, rfl, rfl, rfl, trivial⟩
set_option maxHeartbeats 4000000 in
set_option maxRecDepth 100000 in
theorem rX11_fetch_156 {sk : xK} {base N d : Nat} {K40 : Int32 → Int32 → Int32 → Nat → Nat → (Nat → Nat × Nat) → (Nat → Nat → Int32) → (Nat → Nat → Int64) → (Nat → Nat → Option Nat) → Int32 → hS → Prop} (hkb : x_kb sk base) (a1 : Int32) (l2i : Int32) (l3i : Int32) (l4i : Int32) (l5o : Option Nat) (l6i : Int32) (l7i : Int32) (l8i : Int32) (n sl : Nat) (SH : Nat → Nat × Nat) (FI : Nat → Nat → Int32) (FL : Nat → Nat → Int64) (FR : Nat → Nat → Option Nat) (hok : pk n SH FR)  (hK40 : ∀ (l2i : Int32) (l3i : Int32) (l4i : Int32) (l5o : Option Nat) (l6i : Int32) (l7i : Int32) (l8i : Int32) (n sl : Nat) (SH : Nat → Nat × Nat) (FI : Nat → Nat → Int32) (FL : Nat → Nat → Int64) (FR : Nat → Nat → Option Nat), pk n SH FR → pw pj_I sk base N d none 143 40 [(0, .ref (base + 0)), (1, .int (a1)), (2, .int (l2i)), (3, .int (l3i)), (4, .int (l4i)), (5, va_rf (h_rf base (l5o))), (6, .int (l6i)), (7, .int (l7i)), (8, .int (l8i))] [] (n, sl, SH, FI, FL, FR) (K40 l2i l3i l4i n sl SH FI FL FR)) : pw pj_I sk base N d none 143 156 [(0, .ref (base + 0)), (1, .int (a1)), (2, .int (l2i)), (3, .int (l3i)), (4, .int (l4i)), (5, va_rf (h_rf base (l5o))), (6, .int (l6i)), (7, .int (l7i)), (8, .int (l8i))] [] (n, sl, SH, FI, FL, FR) (RX11_fetch_156 K40 a1 l2i l3i l4i n sl SH FI FL FR) := by
  unfold RX11_fetch_156
  refine pw_iinc (v := (l4i) + (1 : Int32)) (L2 := [(4, .int ((l4i) + (1 : Int32))), (0, .ref (base + 0)), (1, .int (a1)), (2, .int (l2i)), (3, .int (l3i)), (5, va_rf (h_rf base (l5o))), (6, .int (l6i)), (7, .int (l7i)), (8, .int (l8i))]) (aX11_fetch 83 rfl) rfl rfl (by first | rfl | (simp [x_s1, x_s2, va_cat, va_ci, va_cl, va_cr, va_cn]; done) | (simp [x_s1, x_s2, va_cat, va_ci, va_cl, va_cr, va_cn]; decide)) ?_
  refine pw_goto (tgt := 40) (aX11_fetch 84 rfl) (by decide) ?_
  exact pw_Li (L2 := [(0, .ref (base + 0)), (1, .int (a1)), (2, .int (l2i)), (3, .int (l3i)), (4, .int ((l4i) + (1 : Int32))), (5, va_rf (h_rf base (l5o))), (6, .int (l6i)), (7, .int (l7i)), (8, .int (l8i))]) [4, 0, 1, 2, 3, 5, 6, 7, 8] (hK40 (l2i) (l3i) ((l4i) + (1 : Int32)) (l5o) (l6i) (l7i) (l8i) n sl SH FI FL FR hok) ⟨rfl, rfl, rfl, rfl, rfl, rfl, rfl, rfl, rfl, trivial⟩
set_option maxHeartbeats 4000000 in
set_option maxRecDepth 100000 in
theorem bX11_fetch_88 {sk : xK} {base N d : Nat} {K40 : Int32 → Int32 → Int32 → Nat → Nat → (Nat → Nat × Nat) → (Nat → Nat → Int32) → (Nat → Nat → Int64) → (Nat → Nat → Option Nat) → Int32 → hS → Prop} {K88 : Int32 → Int32 → Int32 → Option Nat → Int32 → Int32 → Nat → Nat → (Nat → Nat × Nat) → (Nat → Nat → Int32) → (Nat → Nat → Int64) → (Nat → Nat → Option Nat) → Int32 → hS → Prop} (hkb : x_kb sk base) (a1 : Int32) (l2i : Int32) (l3i : Int32) (l4i : Int32) (l5o : Option Nat) (l6i : Int32) (l7i : Int32) (l8i : Int32) (n sl : Nat) (SH : Nat → Nat × Nat) (FI : Nat → Nat → Int32) (FL : Nat → Nat → Int64) (FR : Nat → Nat → Option Nat) (hok : pk n SH FR)  (hK40 : ∀ (l2i : Int32) (l3i : Int32) (l4i : Int32) (l5o : Option Nat) (l6i : Int32) (l7i : Int32) (l8i : Int32) (n sl : Nat) (SH : Nat → Nat × Nat) (FI : Nat → Nat → Int32) (FL : Nat → Nat → Int64) (FR : Nat → Nat → Option Nat), pk n SH FR → pw pj_I sk base N d none 143 40 [(0, .ref (base + 0)), (1, .int (a1)), (2, .int (l2i)), (3, .int (l3i)), (4, .int (l4i)), (5, va_rf (h_rf base (l5o))), (6, .int (l6i)), (7, .int (l7i)), (8, .int (l8i))] [] (n, sl, SH, FI, FL, FR) (K40 l2i l3i l4i n sl SH FI FL FR)) (hK88 : ∀ (l2i : Int32) (l3i : Int32) (l4i : Int32) (l5o : Option Nat) (l6i : Int32) (l7i : Int32) (l8i : Int32) (n sl : Nat) (SH : Nat → Nat × Nat) (FI : Nat → Nat → Int32) (FL : Nat → Nat → Int64) (FR : Nat → Nat → Option Nat), pk n SH FR → pw pj_I sk base N d none 143 88 [(0, .ref (base + 0)), (1, .int (a1)), (2, .int (l2i)), (3, .int (l3i)), (4, .int (l4i)), (5, va_rf (h_rf base (l5o))), (6, .int (l6i)), (7, .int (l7i)), (8, .int (l8i))] [] (n, sl, SH, FI, FL, FR) (K88 l2i l3i l4i l5o l6i l7i n sl SH FI FL FR)) : pw pj_I sk base (N + 1) d none 143 88 [(0, .ref (base + 0)), (1, .int (a1)), (2, .int (l2i)), (3, .int (l3i)), (4, .int (l4i)), (5, va_rf (h_rf base (l5o))), (6, .int (l6i)), (7, .int (l7i)), (8, .int (l8i))] [] (n, sl, SH, FI, FL, FR) (BX11_fetch_88 K40 K88 a1 l2i l3i l4i l5o l6i l7i n sl SH FI FL FR) := by
  unfold BX11_fetch_88
  refine pd_iload (aX11_fetch 47 rfl) rfl ?_
  refine pw_iload (aX11_fetch 48 rfl) rfl ?_
  refine pw_icge (tgt := 156) (aX11_fetch 49 rfl) (by decide) (fun b0 => ?_) (fun b0 => ?_)
  · skip
    refine pw_iloadn (aX11_fetch 50 rfl) rfl ?_
    refine pw_iloadn (aX11_fetch 51 rfl) rfl ?_
    refine pw_icge (tgt := 156) (aX11_fetch 52 rfl) (by decide) (fun b1 => ?_) (fun b1 => ?_)
    · skip
      refine pw_aloadn (aX11_fetch 53 rfl) rfl ?_
      refine pw_getr (v := .ref (base + 23)) (aX11_fetch 54 rfl) uf_RX11_35 un_RX11_35 (congrArg (fun r => va_rf (h_rf base r)) (q0_0 (hok).2.1)) ?_
      refine pw_aload (aX11_fetch 55 rfl) rfl ?_
      refine pw_aload (aX11_fetch 56 rfl) rfl ?_
      refine pw_get (o := l5o) (v := fun c3 => .int (FI c3 3)) (aX11_fetch 57 rfl) uf_RX11_202 un_RX11_202 (fun _ => rfl) (fun c3 hc3 _ tc3 => ?_)
      refine pw_iload (aX11_fetch 58 rfl) rfl ?_
      refine pw_iadd (aX11_fetch 59 rfl) ?_
      refine pw_callV (Bs := [va_rf (h_rf base (l5o)), .int ((FI c3 3) + (l7i))]) (L2 := [(0, .ref (base + 23)), (1, va_rf (h_rf base (l5o))), (2, .int ((FI c3 3) + (l7i)))]) (rest := []) (aX11_fetch 60 rfl) um_RX11_221 ujX1_bitOf wc_RX11_221.2.2.2.2 (by decide) (by decide) rfl (by first | rfl | simp [lv_args, va_cat, va_ci, va_cl, va_cr, va_cn]) (fun d => rX1_bitOf hkb (l5o) ((FI c3 3) + (l7i)) n sl SH FI FL FR hok) (fun v3 n3 sl3 SH3 FI3 FL3 FR3 hok3 _ => ?_)
      show pw _ _ _ _ _ _ _ 117 _ [.int (v3)] _ _
      refine pw_istore (L2 := [(8, .int (v3)), (0, .ref (base + 0)), (1, .int (a1)), (2, .int (l2i)), (3, .int (l3i)), (4, .int (l4i)), (5, va_rf (h_rf base (l5o))), (6, .int (l6i)), (7, .int (l7i))]) (aX11_fetch 61 rfl) (by first | rfl | (simp [x_s1, x_s2, va_cat, va_ci, va_cl, va_cr, va_cn]; done) | (simp [x_s1, x_s2, va_cat, va_ci, va_cl, va_cr, va_cn]; decide)) ?_
      refine pw_iload (aX11_fetch 62 rfl) rfl ?_
      refine pw_iconst (v := (-1 : Int32)) (aX11_fetch 63 rfl) rfl ?_
      refine pw_iceq (tgt := 147) (aX11_fetch 64 rfl) (by decide) (fun b4 => ?_) (fun b4 => ?_)
      · skip
        exact pw_Li (L2 := [(0, .ref (base + 0)), (1, .int (a1)), (2, .int (l2i)), (3, .int (l3i)), (4, .int (l4i)), (5, va_rf (h_rf base (l5o))), (6, .int (l6i)), (7, .int (l7i)), (8, .int (v3))]) [8, 0, 1, 2, 3, 4, 5, 6, 7] (rX11_fetch_147 hkb a1 (l2i) (l3i) (l4i) (l5o) (l6i) (l7i) (v3) n3 sl3 SH3 FI3 FL3 FR3 hok3  hK40 hK88) ⟨rfl, rfl, rfl, rfl, rfl, rfl, rfl, rfl, rfl, trivial⟩
      · skip
        refine pw_iinc (v := (l2i) + (1 : Int32)) (L2 := [(2, .int ((l2i) + (1 : Int32))), (8, .int (v3)), (0, .ref (base + 0)), (1, .int (a1)), (3, .int (l3i)), (4, .int (l4i)), (5, va_rf (h_rf base (l5o))), (6, .int (l6i)), (7, .int (l7i))]) (aX11_fetch 65 rfl) rfl rfl (by first | rfl | (simp [x_s1, x_s2, va_cat, va_ci, va_cl, va_cr, va_cn]; done) | (simp [x_s1, x_s2, va_cat, va_ci, va_cl, va_cr, va_cn]; decide)) ?_
        refine pw_aloadn (aX11_fetch 66 rfl) rfl ?_
        refine pw_getr (v := .ref (base + 20)) (aX11_fetch 67 rfl) uf_RX11_20 un_RX11_20 (congrArg (fun r => va_rf (h_rf base r)) (q0_7 (hok3).2.1)) ?_
        refine pw_iloadn (aX11_fetch 68 rfl) rfl ?_
        refine pw_bipush (v := (8 : Int32)) (aX11_fetch 69 rfl) rfl ?_
        refine pw_idiv (aX11_fetch 70 rfl) (fun _ => ?_)
        refine pw_dup2 (aX11_fetch 71 rfl) ?_
        refine pw_ialdr (c := 20) (ix := ((l3i) / ((8 : Int32))).toInt.toNat) (aX11_fetch 72 rfl) rfl (fun _ => ?_)
        refine pw_iload (aX11_fetch 73 rfl) rfl ?_
        refine pw_iloadn (aX11_fetch 74 rfl) rfl ?_
        refine pw_bipush (v := (8 : Int32)) (aX11_fetch 75 rfl) rfl ?_
        refine pw_irem (aX11_fetch 76 rfl) (fun _ => ?_)
        refine pw_ishl (aX11_fetch 77 rfl) ?_
        refine pw_ior (aX11_fetch 78 rfl) ?_
        refine pw_iastr (c := 20) (ix := ((l3i) / ((8 : Int32))).toInt.toNat) (aX11_fetch 79 rfl) rfl (fun _ => ?_)
        exact pw_Li (L2 := [(0, .ref (base + 0)), (1, .int (a1)), (2, .int ((l2i) + (1 : Int32))), (3, .int (l3i)), (4, .int (l4i)), (5, va_rf (h_rf base (l5o))), (6, .int (l6i)), (7, .int (l7i)), (8, .int (v3))]) [2, 8, 0, 1, 3, 4, 5, 6, 7] (rX11_fetch_147 hkb a1 ((l2i) + (1 : Int32)) (l3i) (l4i) (l5o) (l6i) (l7i) (v3) n3 sl3 SH3 (h_up FI3 20 ((l3i) / ((8 : Int32))).toInt.toNat ((FI3 20 ((l3i) / ((8 : Int32))).toInt.toNat) ||| ((v3) <<< (((l3i) - (l3i) / ((8 : Int32)) * ((8 : Int32))) &&& 31)))) FL3 FR3 hok3  hK40 hK88) ⟨rfl, rfl, rfl, rfl, rfl, rfl, rfl, rfl, rfl, trivial⟩
    · skip
      exact pw_Li (L2 := [(0, .ref (base + 0)), (1, .int (a1)), (2, .int (l2i)), (3, .int (l3i)), (4, .int (l4i)), (5, va_rf (h_rf base (l5o))), (6, .int (l6i)), (7, .int (l7i)), (8, .int (l8i))]) [0, 1, 2, 3, 4, 5, 6, 7, 8] (rX11_fetch_156 hkb a1 (l2i) (l3i) (l4i) (l5o) (l6i) (l7i) (l8i) n sl SH FI FL FR hok  hK40) ⟨rfl, rfl, rfl, rfl, rfl, rfl, rfl, rfl, rfl, trivial⟩
  · skip
    exact pw_Li (L2 := [(0, .ref (base + 0)), (1, .int (a1)), (2, .int (l2i)), (3, .int (l3i)), (4, .int (l4i)), (5, va_rf (h_rf base (l5o))), (6, .int (l6i)), (7, .int (l7i)), (8, .int (l8i))]) [0, 1, 2, 3, 4, 5, 6, 7, 8] (rX11_fetch_156 hkb a1 (l2i) (l3i) (l4i) (l5o) (l6i) (l7i) (l8i) n sl SH FI FL FR hok  hK40) ⟨rfl, rfl, rfl, rfl, rfl, rfl, rfl, rfl, rfl, trivial⟩
theorem gX11_fetch_88 {sk : xK} {base d : Nat} {K40 : Int32 → Int32 → Int32 → Nat → Nat → (Nat → Nat × Nat) → (Nat → Nat → Int32) → (Nat → Nat → Int64) → (Nat → Nat → Option Nat) → Int32 → hS → Prop} (hkb : x_kb sk base) (a1 : Int32) (N : Nat) : (∀ (l2i : Int32) (l3i : Int32) (l4i : Int32) (l5o : Option Nat) (l6i : Int32) (l7i : Int32) (l8i : Int32) (n sl : Nat) (SH : Nat → Nat × Nat) (FI : Nat → Nat → Int32) (FL : Nat → Nat → Int64) (FR : Nat → Nat → Option Nat), pk n SH FR → pw pj_I sk base N d none 143 40 [(0, .ref (base + 0)), (1, .int (a1)), (2, .int (l2i)), (3, .int (l3i)), (4, .int (l4i)), (5, va_rf (h_rf base (l5o))), (6, .int (l6i)), (7, .int (l7i)), (8, .int (l8i))] [] (n, sl, SH, FI, FL, FR) (K40 l2i l3i l4i n sl SH FI FL FR)) →  ∀ (l2i : Int32) (l3i : Int32) (l4i : Int32) (l5o : Option Nat) (l6i : Int32) (l7i : Int32) (l8i : Int32) (n sl : Nat) (SH : Nat → Nat × Nat) (FI : Nat → Nat → Int32) (FL : Nat → Nat → Int64) (FR : Nat → Nat → Option Nat), pk n SH FR → pw pj_I sk base N d none 143 88 [(0, .ref (base + 0)), (1, .int (a1)), (2, .int (l2i)), (3, .int (l3i)), (4, .int (l4i)), (5, va_rf (h_rf base (l5o))), (6, .int (l6i)), (7, .int (l7i)), (8, .int (l8i))] [] (n, sl, SH, FI, FL, FR) (GX11_fetch_88 K40 a1 (N + 1) l2i l3i l4i l5o l6i l7i n sl SH FI FL FR) := by
  induction N with
  | zero => intros; exact pw_0
  | succ N ih => intro  hK40 l2i l3i l4i l5o l6i l7i l8i n sl SH FI FL FR hok; exact bX11_fetch_88 hkb a1 l2i l3i l4i l5o l6i l7i l8i n sl SH FI FL FR hok  (fun l2i l3i l4i l5o l6i l7i l8i n sl SH FI FL FR ok => pw_mono (hK40 l2i l3i l4i l5o l6i l7i l8i n sl SH FI FL FR ok) (Nat.le_succ _)) (ih  (fun l2i l3i l4i l5o l6i l7i l8i n sl SH FI FL FR ok => pw_mono (hK40 l2i l3i l4i l5o l6i l7i l8i n sl SH FI FL FR ok) (Nat.le_succ _)))
theorem rX11_fetch_88 {sk : xK} {base N d : Nat} {K40 : Int32 → Int32 → Int32 → Nat → Nat → (Nat → Nat × Nat) → (Nat → Nat → Int32) → (Nat → Nat → Int64) → (Nat → Nat → Option Nat) → Int32 → hS → Prop} (hkb : x_kb sk base) (a1 : Int32) (l2i : Int32) (l3i : Int32) (l4i : Int32) (l5o : Option Nat) (l6i : Int32) (l7i : Int32) (l8i : Int32) (n sl : Nat) (SH : Nat → Nat × Nat) (FI : Nat → Nat → Int32) (FL : Nat → Nat → Int64) (FR : Nat → Nat → Option Nat) (hok : pk n SH FR)  (hK40 : ∀ (l2i : Int32) (l3i : Int32) (l4i : Int32) (l5o : Option Nat) (l6i : Int32) (l7i : Int32) (l8i : Int32) (n sl : Nat) (SH : Nat → Nat × Nat) (FI : Nat → Nat → Int32) (FL : Nat → Nat → Int64) (FR : Nat → Nat → Option Nat), pk n SH FR → pw pj_I sk base N d none 143 40 [(0, .ref (base + 0)), (1, .int (a1)), (2, .int (l2i)), (3, .int (l3i)), (4, .int (l4i)), (5, va_rf (h_rf base (l5o))), (6, .int (l6i)), (7, .int (l7i)), (8, .int (l8i))] [] (n, sl, SH, FI, FL, FR) (K40 l2i l3i l4i n sl SH FI FL FR)) : pw pj_I sk base N d none 143 88 [(0, .ref (base + 0)), (1, .int (a1)), (2, .int (l2i)), (3, .int (l3i)), (4, .int (l4i)), (5, va_rf (h_rf base (l5o))), (6, .int (l6i)), (7, .int (l7i)), (8, .int (l8i))] [] (n, sl, SH, FI, FL, FR) (RX11_fetch_88 K40 a1 l2i l3i l4i l5o l6i l7i n sl SH FI FL FR) := pw_cons (gX11_fetch_88 hkb a1 N  hK40 l2i l3i l4i l5o l6i l7i l8i n sl SH FI FL FR hok) (fun _ _ h => ⟨_, h⟩)
set_option maxHeartbeats 4000000 in
set_option maxRecDepth 100000 in
theorem rX11_fetch_83 {sk : xK} {base N d : Nat} {K40 : Int32 → Int32 → Int32 → Nat → Nat → (Nat → Nat × Nat) → (Nat → Nat → Int32) → (Nat → Nat → Int64) → (Nat → Nat → Option Nat) → Int32 → hS → Prop} (hkb : x_kb sk base) (a1 : Int32) (l2i : Int32) (l3i : Int32) (l4i : Int32) (l5o : Option Nat) (s0i : Int32) (l6i : Int32) (l7i : Int32) (l8i : Int32) (n sl : Nat) (SH : Nat → Nat × Nat) (FI : Nat → Nat → Int32) (FL : Nat → Nat → Int64) (FR : Nat → Nat → Option Nat) (hok : pk n SH FR)  (hK40 : ∀ (l2i : Int32) (l3i : Int32) (l4i : Int32) (l5o : Option Nat) (l6i : Int32) (l7i : Int32) (l8i : Int32) (n sl : Nat) (SH : Nat → Nat × Nat) (FI : Nat → Nat → Int32) (FL : Nat → Nat → Int64) (FR : Nat → Nat → Option Nat), pk n SH FR → pw pj_I sk base N d none 143 40 [(0, .ref (base + 0)), (1, .int (a1)), (2, .int (l2i)), (3, .int (l3i)), (4, .int (l4i)), (5, va_rf (h_rf base (l5o))), (6, .int (l6i)), (7, .int (l7i)), (8, .int (l8i))] [] (n, sl, SH, FI, FL, FR) (K40 l2i l3i l4i n sl SH FI FL FR)) : pw pj_I sk base N d none 143 83 [(0, .ref (base + 0)), (1, .int (a1)), (2, .int (l2i)), (3, .int (l3i)), (4, .int (l4i)), (5, va_rf (h_rf base (l5o))), (6, .int (l6i)), (7, .int (l7i)), (8, .int (l8i))] [.int (s0i)] (n, sl, SH, FI, FL, FR) (RX11_fetch_83 K40 a1 l2i l3i l4i l5o s0i n sl SH FI FL FR) := by
  unfold RX11_fetch_83
  refine pw_istore (L2 := [(6, .int (s0i)), (0, .ref (base + 0)), (1, .int (a1)), (2, .int (l2i)), (3, .int (l3i)), (4, .int (l4i)), (5, va_rf (h_rf base (l5o))), (7, .int (l7i)), (8, .int (l8i))]) (aX11_fetch 44 rfl) (by first | rfl | (simp [x_s1, x_s2, va_cat, va_ci, va_cl, va_cr, va_cn]; done) | (simp [x_s1, x_s2, va_cat, va_ci, va_cl, va_cr, va_cn]; decide)) ?_
  refine pw_iconst (v := (0 : Int32)) (aX11_fetch 45 rfl) rfl ?_
  refine pw_istore (L2 := [(7, .int ((0 : Int32))), (6, .int (s0i)), (0, .ref (base + 0)), (1, .int (a1)), (2, .int (l2i)), (3, .int (l3i)), (4, .int (l4i)), (5, va_rf (h_rf base (l5o))), (8, .int (l8i))]) (aX11_fetch 46 rfl) (by first | rfl | (simp [x_s1, x_s2, va_cat, va_ci, va_cl, va_cr, va_cn]; done) | (simp [x_s1, x_s2, va_cat, va_ci, va_cl, va_cr, va_cn]; decide)) ?_
  exact pw_Li (L2 := [(0, .ref (base + 0)), (1, .int (a1)), (2, .int (l2i)), (3, .int (l3i)), (4, .int (l4i)), (5, va_rf (h_rf base (l5o))), (6, .int (s0i)), (7, .int ((0 : Int32))), (8, .int (l8i))]) [7, 6, 0, 1, 2, 3, 4, 5, 8] (rX11_fetch_88 hkb a1 (l2i) (l3i) (l4i) (l5o) (s0i) ((0 : Int32)) (l8i) n sl SH FI FL FR hok  hK40) ⟨rfl, rfl, rfl, rfl, rfl, rfl, rfl, rfl, rfl, trivial⟩
set_option maxHeartbeats 4000000 in
set_option maxRecDepth 100000 in
theorem bX11_fetch_40 {sk : xK} {base N d : Nat} {K40 : Int32 → Int32 → Int32 → Nat → Nat → (Nat → Nat × Nat) → (Nat → Nat → Int32) → (Nat → Nat → Int64) → (Nat → Nat → Option Nat) → Int32 → hS → Prop} (hkb : x_kb sk base) (a1 : Int32) (l2i : Int32) (l3i : Int32) (l4i : Int32) (l5o : Option Nat) (l6i : Int32) (l7i : Int32) (l8i : Int32) (n sl : Nat) (SH : Nat → Nat × Nat) (FI : Nat → Nat → Int32) (FL : Nat → Nat → Int64) (FR : Nat → Nat → Option Nat) (hok : pk n SH FR)  (hK40 : ∀ (l2i : Int32) (l3i : Int32) (l4i : Int32) (l5o : Option Nat) (l6i : Int32) (l7i : Int32) (l8i : Int32) (n sl : Nat) (SH : Nat → Nat × Nat) (FI : Nat → Nat → Int32) (FL : Nat → Nat → Int64) (FR : Nat → Nat → Option Nat), pk n SH FR → pw pj_I sk base N d none 143 40 [(0, .ref (base + 0)), (1, .int (a1)), (2, .int (l2i)), (3, .int (l3i)), (4, .int (l4i)), (5, va_rf (h_rf base (l5o))), (6, .int (l6i)), (7, .int (l7i)), (8, .int (l8i))] [] (n, sl, SH, FI, FL, FR) (K40 l2i l3i l4i n sl SH FI FL FR)) : pw pj_I sk base (N + 1) d none 143 40 [(0, .ref (base + 0)), (1, .int (a1)), (2, .int (l2i)), (3, .int (l3i)), (4, .int (l4i)), (5, va_rf (h_rf base (l5o))), (6, .int (l6i)), (7, .int (l7i)), (8, .int (l8i))] [] (n, sl, SH, FI, FL, FR) (BX11_fetch_40 K40 a1 l2i l3i l4i n sl SH FI FL FR) := by
  unfold BX11_fetch_40
  refine pd_iload (aX11_fetch 25 rfl) rfl ?_
  refine pw_aloadn (aX11_fetch 26 rfl) rfl ?_
  refine pw_getr (v := .ref (base + 1)) (aX11_fetch 27 rfl) uf_RX11_10 un_RX11_10 (congrArg (fun r => va_rf (h_rf base r)) (q0_5 (hok).2.1)) ?_
  refine pw_cf (pw_callV (Bs := []) (rest := [.int (l4i)]) (aX11_fetch 28 rfl) um_RX11_184 ujX8_count wc_RX11_184.2.2.2.2 (by decide) (by decide) rfl rfl (fun d => rX8_count hkb 1 n sl SH FI FL FR hok) (fun v0 n0 sl0 SH0 FI0 FL0 FR0 _ hC => ?_))
  obtain ⟨rfl, hC⟩ := hC; cases hC
  show pw _ _ _ _ _ _ _ 49 _ [.int (fX8_count 1 SH FI FL FR), .int (l4i)] _ _
  refine pw_icge (tgt := 162) (aX11_fetch 29 rfl) (by decide) (fun b1 => ?_) (fun b1 => ?_)
  · skip
    refine pw_aloadn (aX11_fetch 30 rfl) rfl ?_
    refine pw_getr (v := .ref (base + 1)) (aX11_fetch 31 rfl) uf_RX11_10 un_RX11_10 (congrArg (fun r => va_rf (h_rf base r)) (q0_5 (hok).2.1)) ?_
    refine pw_getr (v := .ref (base + 2)) (aX11_fetch 32 rfl) uf_RX11_188 un_RX11_188 (congrArg (fun r => va_rf (h_rf base r)) (q1_0 (hok).2.1)) ?_
    refine pw_iload (aX11_fetch 33 rfl) rfl ?_
    refine pw_aaldr (c := 2) (ix := (l4i).toInt.toNat) (aX11_fetch 34 rfl) rfl (fun _ => ?_)
    refine pw_astore (L2 := [(5, va_rf (h_rf base (FR 2 (l4i).toInt.toNat))), (0, .ref (base + 0)), (1, .int (a1)), (2, .int (l2i)), (3, .int (l3i)), (4, .int (l4i)), (6, .int (l6i)), (7, .int (l7i)), (8, .int (l8i))]) (aX11_fetch 35 rfl) (by first | rfl | (simp [x_s1, x_s2, va_cat, va_ci, va_cl, va_cr, va_cn]; done) | (simp [x_s1, x_s2, va_cat, va_ci, va_cl, va_cr, va_cn]; decide)) ?_
    refine pw_aloadn (aX11_fetch 36 rfl) rfl ?_
    refine pw_getr (v := .ref (base + 1)) (aX11_fetch 37 rfl) uf_RX11_10 un_RX11_10 (congrArg (fun r => va_rf (h_rf base r)) (q0_5 (hok).2.1)) ?_
    refine pw_getr (v := .int (FI 1 1)) (aX11_fetch 38 rfl) uf_RX11_218 un_RX11_218 rfl ?_
    refine pw_ifne (tgt := 78) (aX11_fetch 39 rfl) (by decide) (fun b2 => ?_) (fun b2 => ?_)
    · skip
      refine pw_iloadn (aX11_fetch 40 rfl) rfl ?_
      refine pw_goto (tgt := 83) (aX11_fetch 41 rfl) (by decide) ?_
      exact pw_Li (L2 := [(0, .ref (base + 0)), (1, .int (a1)), (2, .int (l2i)), (3, .int (l3i)), (4, .int (l4i)), (5, va_rf (h_rf base (FR 2 (l4i).toInt.toNat))), (6, .int (l6i)), (7, .int (l7i)), (8, .int (l8i))]) [5, 0, 1, 2, 3, 4, 6, 7, 8] (rX11_fetch_83 hkb a1 (l2i) (l3i) (l4i) (FR 2 (l4i).toInt.toNat) (a1) (l6i) (l7i) (l8i) n sl SH FI FL FR hok  hK40) ⟨rfl, rfl, rfl, rfl, rfl, rfl, rfl, rfl, rfl, trivial⟩
    · skip
      refine pw_aload (aX11_fetch 42 rfl) rfl ?_
      refine pw_get (o := FR 2 (l4i).toInt.toNat) (v := fun c4 => .int (FI c4 2)) (aX11_fetch 43 rfl) uf_RX11_199 un_RX11_199 (fun _ => rfl) (fun c4 hc4 _ tc4 => ?_)
      exact pw_Li (L2 := [(0, .ref (base + 0)), (1, .int (a1)), (2, .int (l2i)), (3, .int (l3i)), (4, .int (l4i)), (5, va_rf (h_rf base (FR 2 (l4i).toInt.toNat))), (6, .int (l6i)), (7, .int (l7i)), (8, .int (l8i))]) [5, 0, 1, 2, 3, 4, 6, 7, 8] (rX11_fetch_83 hkb a1 (l2i) (l3i) (l4i) (FR 2 (l4i).toInt.toNat) (FI c4 2) (l6i) (l7i) (l8i) n sl SH FI FL FR hok  hK40) ⟨rfl, rfl, rfl, rfl, rfl, rfl, rfl, rfl, rfl, trivial⟩
  · skip
    refine pw_iloadn (aX11_fetch 85 rfl) rfl ?_
    exact pw_iret (aX11_fetch 86 rfl) hok
theorem gX11_fetch_40 {sk : xK} {base d : Nat}  (hkb : x_kb sk base) (a1 : Int32) (N : Nat) :  ∀ (l2i : Int32) (l3i : Int32) (l4i : Int32) (l5o : Option Nat) (l6i : Int32) (l7i : Int32) (l8i : Int32) (n sl : Nat) (SH : Nat → Nat × Nat) (FI : Nat → Nat → Int32) (FL : Nat → Nat → Int64) (FR : Nat → Nat → Option Nat), pk n SH FR → pw pj_I sk base N d none 143 40 [(0, .ref (base + 0)), (1, .int (a1)), (2, .int (l2i)), (3, .int (l3i)), (4, .int (l4i)), (5, va_rf (h_rf base (l5o))), (6, .int (l6i)), (7, .int (l7i)), (8, .int (l8i))] [] (n, sl, SH, FI, FL, FR) (GX11_fetch_40  a1 (N + 1) l2i l3i l4i n sl SH FI FL FR) := by
  induction N with
  | zero => intros; exact pw_0
  | succ N ih => intro   l2i l3i l4i l5o l6i l7i l8i n sl SH FI FL FR hok; exact bX11_fetch_40 hkb a1 l2i l3i l4i l5o l6i l7i l8i n sl SH FI FL FR hok  (ih  )
theorem rX11_fetch_40 {sk : xK} {base N d : Nat}  (hkb : x_kb sk base) (a1 : Int32) (l2i : Int32) (l3i : Int32) (l4i : Int32) (l5o : Option Nat) (l6i : Int32) (l7i : Int32) (l8i : Int32) (n sl : Nat) (SH : Nat → Nat × Nat) (FI : Nat → Nat → Int32) (FL : Nat → Nat → Int64) (FR : Nat → Nat → Option Nat) (hok : pk n SH FR)   : pw pj_I sk base N d none 143 40 [(0, .ref (base + 0)), (1, .int (a1)), (2, .int (l2i)), (3, .int (l3i)), (4, .int (l4i)), (5, va_rf (h_rf base (l5o))), (6, .int (l6i)), (7, .int (l7i)), (8, .int (l8i))] [] (n, sl, SH, FI, FL, FR) (RX11_fetch_40  a1 l2i l3i l4i n sl SH FI FL FR) := pw_cons (gX11_fetch_40 hkb a1 N   l2i l3i l4i l5o l6i l7i l8i n sl SH FI FL FR hok) (fun _ _ h => ⟨_, h⟩)
set_option maxHeartbeats 4000000 in
set_option maxRecDepth 100000 in
theorem rX11_fetch {sk : xK} {base N d : Nat} (hkb : x_kb sk base) (a1 : Int32) (n sl : Nat) (SH : Nat → Nat × Nat) (FI : Nat → Nat → Int32) (FL : Nat → Nat → Int64) (FR : Nat → Nat → Option Nat) (hok : pk n SH FR)  : pw pj_I sk base N d none 143 0 [(0, .ref (base + 0)), (1, .int (a1))] [] (n, sl, SH, FI, FL, FR) (RX11_fetch a1 n sl SH FI FL FR) := by
  unfold RX11_fetch
  refine pw_iloadn (aX11_fetch 0 rfl) rfl ?_
  refine pw_iconst (v := (1 : Int32)) (aX11_fetch 1 rfl) rfl ?_
  refine pw_iclt (tgt := 12) (aX11_fetch 2 rfl) (by decide) (fun b0 => ?_) (fun b0 => ?_)
  · skip
    refine pw_iconst (v := (-1 : Int32)) (aX11_fetch 6 rfl) rfl ?_
    exact pw_iret (aX11_fetch 7 rfl) hok
  · skip
    refine pw_iloadn (aX11_fetch 3 rfl) rfl ?_
    refine pw_sipush (v := (512 : Int32)) (aX11_fetch 4 rfl) rfl ?_
    refine pw_icle (tgt := 14) (aX11_fetch 5 rfl) (by decide) (fun b1 => ?_) (fun b1 => ?_)
    · skip
      refine pw_iconst (v := (-1 : Int32)) (aX11_fetch 6 rfl) rfl ?_
      exact pw_iret (aX11_fetch 7 rfl) hok
    · skip
      refine pw_aloadn (aX11_fetch 8 rfl) rfl ?_
      refine pw_getr (v := .ref (base + 20)) (aX11_fetch 9 rfl) uf_RX11_20 un_RX11_20 (congrArg (fun r => va_rf (h_rf base r)) (q0_7 (hok).2.1)) ?_
      refine pw_iconst (v := (0 : Int32)) (aX11_fetch 10 rfl) rfl ?_
      refine pw_callS (As := [.ref (base + 20), .int ((0 : Int32))]) (rest := []) (aX11_fetch 11 rfl) um_RX11_211 ujJ7_fill_53178 wc_RX11_211.2.2.2.2 (by decide) rfl rfl (fun d => rJ7_fill_53178 hkb (some 20) ((0 : Int32)) n sl SH FI FL FR hok) (fun v2 n2 sl2 SH2 FI2 FL2 FR2 hok2 _ => ?_)
      show pw _ _ _ _ _ _ _ 22 _ [] _ _
      refine pw_aloadn (aX11_fetch 12 rfl) rfl ?_
      refine pw_iloadn (aX11_fetch 13 rfl) rfl ?_
      refine pw_bipush (v := (7 : Int32)) (aX11_fetch 14 rfl) rfl ?_
      refine pw_iadd (aX11_fetch 15 rfl) ?_
      refine pw_bipush (v := (8 : Int32)) (aX11_fetch 16 rfl) rfl ?_
      refine pw_idiv (aX11_fetch 17 rfl) (fun _ => ?_)
      refine pw_putri (aX11_fetch 18 rfl) uf_RX11_215 (fun _ _ _ => rfl) (fun t4 => ?_)
      refine pw_iconst (v := (0 : Int32)) (aX11_fetch 19 rfl) rfl ?_
      refine pw_istoren (L2 := [(2, .int ((0 : Int32))), (0, .ref (base + 0)), (1, .int (a1))]) (aX11_fetch 20 rfl) rfl ?_
      refine pw_iconst (v := (0 : Int32)) (aX11_fetch 21 rfl) rfl ?_
      refine pw_istoren (L2 := [(3, .int ((0 : Int32))), (2, .int ((0 : Int32))), (0, .ref (base + 0)), (1, .int (a1))]) (aX11_fetch 22 rfl) rfl ?_
      refine pw_iconst (v := (0 : Int32)) (aX11_fetch 23 rfl) rfl ?_
      refine pw_istore (L2 := [(4, .int ((0 : Int32))), (3, .int ((0 : Int32))), (2, .int ((0 : Int32))), (0, .ref (base + 0)), (1, .int (a1))]) (aX11_fetch 24 rfl) rfl ?_
      exact pw_Li (L2 := [(0, .ref (base + 0)), (1, .int (a1)), (2, .int ((0 : Int32))), (3, .int ((0 : Int32))), (4, .int ((0 : Int32))), (5, va_rf (h_rf base none)), (6, .int 0), (7, .int 0), (8, .int 0)]) [4, 3, 2, 0, 1] (rX11_fetch_40 hkb a1 ((0 : Int32)) ((0 : Int32)) ((0 : Int32)) none 0 0 0 n2 sl2 SH2 (h_up FI2 0 10 (((a1) + ((7 : Int32))) / ((8 : Int32)))) FL2 FR2 hok2  ) ⟨rfl, rfl, rfl, rfl, rfl, trivial⟩
set_option maxHeartbeats 4000000 in
set_option maxRecDepth 100000 in
theorem rX11_store_135 {sk : xK} {base N d : Nat} {K32 : Int32 → Int32 → Int32 → Nat → Nat → (Nat → Nat × Nat) → (Nat → Nat → Int32) → (Nat → Nat → Int64) → (Nat → Nat → Option Nat) → Int32 → hS → Prop} {K80 : Int32 → Int32 → Int32 → Option Nat → Int32 → Int32 → Nat → Nat → (Nat → Nat × Nat) → (Nat → Nat → Int32) → (Nat → Nat → Int64) → (Nat → Nat → Option Nat) → Int32 → hS → Prop} (hkb : x_kb sk base) (a1 : Int32) (l2i : Int32) (l3i : Int32) (l4i : Int32) (l5o : Option Nat) (l6i : Int32) (l7i : Int32) (l8i : Int32) (n sl : Nat) (SH : Nat → Nat × Nat) (FI : Nat → Nat → Int32) (FL : Nat → Nat → Int64) (FR : Nat → Nat → Option Nat) (hok : pk n SH FR)  (hK32 : ∀ (l2i : Int32) (l3i : Int32) (l4i : Int32) (l5o : Option Nat) (l6i : Int32) (l7i : Int32) (l8i : Int32) (n sl : Nat) (SH : Nat → Nat × Nat) (FI : Nat → Nat → Int32) (FL : Nat → Nat → Int64) (FR : Nat → Nat → Option Nat), pk n SH FR → pw pj_I sk base N d none 144 32 [(0, .ref (base + 0)), (1, .int (a1)), (2, .int (l2i)), (3, .int (l3i)), (4, .int (l4i)), (5, va_rf (h_rf base (l5o))), (6, .int (l6i)), (7, .int (l7i)), (8, .int (l8i))] [] (n, sl, SH, FI, FL, FR) (K32 l2i l3i l4i n sl SH FI FL FR)) (hK80 : ∀ (l2i : Int32) (l3i : Int32) (l4i : Int32) (l5o : Option Nat) (l6i : Int32) (l7i : Int32) (l8i : Int32) (n sl : Nat) (SH : Nat → Nat × Nat) (FI : Nat → Nat → Int32) (FL : Nat → Nat → Int64) (FR : Nat → Nat → Option Nat), pk n SH FR → pw pj_I sk base N d none 144 80 [(0, .ref (base + 0)), (1, .int (a1)), (2, .int (l2i)), (3, .int (l3i)), (4, .int (l4i)), (5, va_rf (h_rf base (l5o))), (6, .int (l6i)), (7, .int (l7i)), (8, .int (l8i))] [] (n, sl, SH, FI, FL, FR) (K80 l2i l3i l4i l5o l6i l7i n sl SH FI FL FR)) : pw pj_I sk base N d none 144 135 [(0, .ref (base + 0)), (1, .int (a1)), (2, .int (l2i)), (3, .int (l3i)), (4, .int (l4i)), (5, va_rf (h_rf base (l5o))), (6, .int (l6i)), (7, .int (l7i)), (8, .int (l8i))] [] (n, sl, SH, FI, FL, FR) (RX11_store_135 K32 K80 a1 l2i l3i l4i l5o l6i l7i n sl SH FI FL FR) := by
  unfold RX11_store_135
  refine pw_iinc (v := (l3i) + (1 : Int32)) (L2 := [(3, .int ((l3i) + (1 : Int32))), (0, .ref (base + 0)), (1, .int (a1)), (2, .int (l2i)), (4, .int (l4i)), (5, va_rf (h_rf base (l5o))), (6, .int (l6i)), (7, .int (l7i)), (8, .int (l8i))]) (aX11_store 72 rfl) rfl rfl (by first | rfl | (simp [x_s1, x_s2, va_cat, va_ci, va_cl, va_cr, va_cn]; done) | (simp [x_s1, x_s2, va_cat, va_ci, va_cl, va_cr, va_cn]; decide)) ?_
  refine pw_iinc (v := (l7i) + (1 : Int32)) (L2 := [(7, .int ((l7i) + (1 : Int32))), (3, .int ((l3i) + (1 : Int32))), (0, .ref (base + 0)), (1, .int (a1)), (2, .int (l2i)), (4, .int (l4i)), (5, va_rf (h_rf base (l5o))), (6, .int (l6i)), (8, .int (l8i))]) (aX11_store 73 rfl) rfl rfl (by first | rfl | (simp [x_s1, x_s2, va_cat, va_ci, va_cl, va_cr, va_cn]; done) | (simp [x_s1, x_s2, va_cat, va_ci, va_cl, va_cr, va_cn]; decide)) ?_
  refine pw_goto (tgt := 80) (aX11_store 74 rfl) (by decide) ?_
  exact pw_Li (L2 := [(0, .ref (base + 0)), (1, .int (a1)), (2, .int (l2i)), (3, .int ((l3i) + (1 : Int32))), (4, .int (l4i)), (5, va_rf (h_rf base (l5o))), (6, .int (l6i)), (7, .int ((l7i) + (1 : Int32))), (8, .int (l8i))]) [7, 3, 0, 1, 2, 4, 5, 6, 8] (hK80 (l2i) ((l3i) + (1 : Int32)) (l4i) (l5o) (l6i) ((l7i) + (1 : Int32)) (l8i) n sl SH FI FL FR hok) ⟨rfl, rfl, rfl, rfl, rfl, rfl, rfl, rfl, rfl, trivial⟩
set_option maxHeartbeats 4000000 in
set_option maxRecDepth 100000 in
theorem rX11_store_144 {sk : xK} {base N d : Nat} {K32 : Int32 → Int32 → Int32 → Nat → Nat → (Nat → Nat × Nat) → (Nat → Nat → Int32) → (Nat → Nat → Int64) → (Nat → Nat → Option Nat) → Int32 → hS → Prop} (hkb : x_kb sk base) (a1 : Int32) (l2i : Int32) (l3i : Int32) (l4i : Int32) (l5o : Option Nat) (l6i : Int32) (l7i : Int32) (l8i : Int32) (n sl : Nat) (SH : Nat → Nat × Nat) (FI : Nat → Nat → Int32) (FL : Nat → Nat → Int64) (FR : Nat → Nat → Option Nat) (hok : pk n SH FR)  (hK32 : ∀ (l2i : Int32) (l3i : Int32) (l4i : Int32) (l5o : Option Nat) (l6i : Int32) (l7i : Int32) (l8i : Int32) (n sl : Nat) (SH : Nat → Nat × Nat) (FI : Nat → Nat → Int32) (FL : Nat → Nat → Int64) (FR : Nat → Nat → Option Nat), pk n SH FR → pw pj_I sk base N d none 144 32 [(0, .ref (base + 0)), (1, .int (a1)), (2, .int (l2i)), (3, .int (l3i)), (4, .int (l4i)), (5, va_rf (h_rf base (l5o))), (6, .int (l6i)), (7, .int (l7i)), (8, .int (l8i))] [] (n, sl, SH, FI, FL, FR) (K32 l2i l3i l4i n sl SH FI FL FR)) : pw pj_I sk base N d none 144 144 [(0, .ref (base + 0)), (1, .int (a1)), (2, .int (l2i)), (3, .int (l3i)), (4, .int (l4i)), (5, va_rf (h_rf base (l5o))), (6, .int (l6i)), (7, .int (l7i)), (8, .int (l8i))] [] (n, sl, SH, FI, FL, FR) (RX11_store_144 K32 a1 l2i l3i l4i n sl SH FI FL FR) := by
  unfold RX11_store_144
  refine pw_iinc (v := (l4i) + (1 : Int32)) (L2 := [(4, .int ((l4i) + (1 : Int32))), (0, .ref (base + 0)), (1, .int (a1)), (2, .int (l2i)), (3, .int (l3i)), (5, va_rf (h_rf base (l5o))), (6, .int (l6i)), (7, .int (l7i)), (8, .int (l8i))]) (aX11_store 75 rfl) rfl rfl (by first | rfl | (simp [x_s1, x_s2, va_cat, va_ci, va_cl, va_cr, va_cn]; done) | (simp [x_s1, x_s2, va_cat, va_ci, va_cl, va_cr, va_cn]; decide)) ?_
  refine pw_goto (tgt := 32) (aX11_store 76 rfl) (by decide) ?_
  exact pw_Li (L2 := [(0, .ref (base + 0)), (1, .int (a1)), (2, .int (l2i)), (3, .int (l3i)), (4, .int ((l4i) + (1 : Int32))), (5, va_rf (h_rf base (l5o))), (6, .int (l6i)), (7, .int (l7i)), (8, .int (l8i))]) [4, 0, 1, 2, 3, 5, 6, 7, 8] (hK32 (l2i) (l3i) ((l4i) + (1 : Int32)) (l5o) (l6i) (l7i) (l8i) n sl SH FI FL FR hok) ⟨rfl, rfl, rfl, rfl, rfl, rfl, rfl, rfl, rfl, trivial⟩
set_option maxHeartbeats 4000000 in
set_option maxRecDepth 100000 in
theorem bX11_store_80 {sk : xK} {base N d : Nat} {K32 : Int32 → Int32 → Int32 → Nat → Nat → (Nat → Nat × Nat) → (Nat → Nat → Int32) → (Nat → Nat → Int64) → (Nat → Nat → Option Nat) → Int32 → hS → Prop} {K80 : Int32 → Int32 → Int32 → Option Nat → Int32 → Int32 → Nat → Nat → (Nat → Nat × Nat) → (Nat → Nat → Int32) → (Nat → Nat → Int64) → (Nat → Nat → Option Nat) → Int32 → hS → Prop} (hkb : x_kb sk base) (a1 : Int32) (l2i : Int32) (l3i : Int32) (l4i : Int32) (l5o : Option Nat) (l6i : Int32) (l7i : Int32) (l8i : Int32) (n sl : Nat) (SH : Nat → Nat × Nat) (FI : Nat → Nat → Int32) (FL : Nat → Nat → Int64) (FR : Nat → Nat → Option Nat) (hok : pk n SH FR)  (hK32 : ∀ (l2i : Int32) (l3i : Int32) (l4i : Int32) (l5o : Option Nat) (l6i : Int32) (l7i : Int32) (l8i : Int32) (n sl : Nat) (SH : Nat → Nat × Nat) (FI : Nat → Nat → Int32) (FL : Nat → Nat → Int64) (FR : Nat → Nat → Option Nat), pk n SH FR → pw pj_I sk base N d none 144 32 [(0, .ref (base + 0)), (1, .int (a1)), (2, .int (l2i)), (3, .int (l3i)), (4, .int (l4i)), (5, va_rf (h_rf base (l5o))), (6, .int (l6i)), (7, .int (l7i)), (8, .int (l8i))] [] (n, sl, SH, FI, FL, FR) (K32 l2i l3i l4i n sl SH FI FL FR)) (hK80 : ∀ (l2i : Int32) (l3i : Int32) (l4i : Int32) (l5o : Option Nat) (l6i : Int32) (l7i : Int32) (l8i : Int32) (n sl : Nat) (SH : Nat → Nat × Nat) (FI : Nat → Nat → Int32) (FL : Nat → Nat → Int64) (FR : Nat → Nat → Option Nat), pk n SH FR → pw pj_I sk base N d none 144 80 [(0, .ref (base + 0)), (1, .int (a1)), (2, .int (l2i)), (3, .int (l3i)), (4, .int (l4i)), (5, va_rf (h_rf base (l5o))), (6, .int (l6i)), (7, .int (l7i)), (8, .int (l8i))] [] (n, sl, SH, FI, FL, FR) (K80 l2i l3i l4i l5o l6i l7i n sl SH FI FL FR)) : pw pj_I sk base (N + 1) d none 144 80 [(0, .ref (base + 0)), (1, .int (a1)), (2, .int (l2i)), (3, .int (l3i)), (4, .int (l4i)), (5, va_rf (h_rf base (l5o))), (6, .int (l6i)), (7, .int (l7i)), (8, .int (l8i))] [] (n, sl, SH, FI, FL, FR) (BX11_store_80 K32 K80 a1 l2i l3i l4i l5o l6i l7i n sl SH FI FL FR) := by
  unfold BX11_store_80
  refine pd_iload (aX11_store 42 rfl) rfl ?_
  refine pw_iload (aX11_store 43 rfl) rfl ?_
  refine pw_icge (tgt := 144) (aX11_store 44 rfl) (by decide) (fun b0 => ?_) (fun b0 => ?_)
  · skip
    refine pw_iloadn (aX11_store 45 rfl) rfl ?_
    refine pw_iloadn (aX11_store 46 rfl) rfl ?_
    refine pw_icge (tgt := 144) (aX11_store 47 rfl) (by decide) (fun b1 => ?_) (fun b1 => ?_)
    · skip
      refine pw_aloadn (aX11_store 48 rfl) rfl ?_
      refine pw_getr (v := .ref (base + 19)) (aX11_store 49 rfl) uf_RX11_16 un_RX11_16 (congrArg (fun r => va_rf (h_rf base r)) (q0_6 (hok).2.1)) ?_
      refine pw_iloadn (aX11_store 50 rfl) rfl ?_
      refine pw_bipush (v := (8 : Int32)) (aX11_store 51 rfl) rfl ?_
      refine pw_idiv (aX11_store 52 rfl) (fun _ => ?_)
      refine pw_ialdr (c := 19) (ix := ((l3i) / ((8 : Int32))).toInt.toNat) (aX11_store 53 rfl) rfl (fun _ => ?_)
      refine pw_iloadn (aX11_store 54 rfl) rfl ?_
      refine pw_bipush (v := (8 : Int32)) (aX11_store 55 rfl) rfl ?_
      refine pw_irem (aX11_store 56 rfl) (fun _ => ?_)
      refine pw_iushr (aX11_store 57 rfl) ?_
      refine pw_iconst (v := (1 : Int32)) (aX11_store 58 rfl) rfl ?_
      refine pw_iand (aX11_store 59 rfl) ?_
      refine pw_istore (L2 := [(8, .int ((((FI 19 ((l3i) / ((8 : Int32))).toInt.toNat).toUInt32 >>> (((l3i) - (l3i) / ((8 : Int32)) * ((8 : Int32))).toUInt32 &&& Int32.toUInt32 31)).toInt32) &&& ((1 : Int32)))), (0, .ref (base + 0)), (1, .int (a1)), (2, .int (l2i)), (3, .int (l3i)), (4, .int (l4i)), (5, va_rf (h_rf base (l5o))), (6, .int (l6i)), (7, .int (l7i))]) (aX11_store 60 rfl) (by first | rfl | (simp [x_s1, x_s2, va_cat, va_ci, va_cl, va_cr, va_cn]; done) | (simp [x_s1, x_s2, va_cat, va_ci, va_cl, va_cr, va_cn]; decide)) ?_
      refine pw_aloadn (aX11_store 61 rfl) rfl ?_
      refine pw_getr (v := .ref (base + 23)) (aX11_store 62 rfl) uf_RX11_35 un_RX11_35 (congrArg (fun r => va_rf (h_rf base r)) (q0_0 (hok).2.1)) ?_
      refine pw_aload (aX11_store 63 rfl) rfl ?_
      refine pw_aload (aX11_store 64 rfl) rfl ?_
      refine pw_get (o := l5o) (v := fun c3 => .int (FI c3 3)) (aX11_store 65 rfl) uf_RX11_202 un_RX11_202 (fun _ => rfl) (fun c3 hc3 _ tc3 => ?_)
      refine pw_iload (aX11_store 66 rfl) rfl ?_
      refine pw_iadd (aX11_store 67 rfl) ?_
      refine pw_iload (aX11_store 68 rfl) rfl ?_
      refine pw_callV (Bs := [va_rf (h_rf base (l5o)), .int ((FI c3 3) + (l7i)), .int ((((FI 19 ((l3i) / ((8 : Int32))).toInt.toNat).toUInt32 >>> (((l3i) - (l3i) / ((8 : Int32)) * ((8 : Int32))).toUInt32 &&& Int32.toUInt32 31)).toInt32) &&& ((1 : Int32)))]) (L2 := [(0, .ref (base + 23)), (1, va_rf (h_rf base (l5o))), (2, .int ((FI c3 3) + (l7i))), (3, .int ((((FI 19 ((l3i) / ((8 : Int32))).toInt.toNat).toUInt32 >>> (((l3i) - (l3i) / ((8 : Int32)) * ((8 : Int32))).toUInt32 &&& Int32.toUInt32 31)).toInt32) &&& ((1 : Int32))))]) (rest := []) (aX11_store 69 rfl) um_RX11_225 ujX1_putBit wc_RX11_225.2.2.2.2 (by decide) (by decide) rfl (by first | rfl | simp [lv_args, va_cat, va_ci, va_cl, va_cr, va_cn]) (fun d => rX1_putBit hkb (l5o) ((FI c3 3) + (l7i)) ((((FI 19 ((l3i) / ((8 : Int32))).toInt.toNat).toUInt32 >>> (((l3i) - (l3i) / ((8 : Int32)) * ((8 : Int32))).toUInt32 &&& Int32.toUInt32 31)).toInt32) &&& ((1 : Int32))) n sl SH FI FL FR hok) (fun v3 n3 sl3 SH3 FI3 FL3 FR3 hok3 _ => ?_)
      show pw _ _ _ _ _ _ _ 129 _ [.int (v3)] _ _
      refine pw_ifeq (tgt := 135) (aX11_store 70 rfl) (by decide) (fun b4 => ?_) (fun b4 => ?_)
      · skip
        exact pw_Li (L2 := [(0, .ref (base + 0)), (1, .int (a1)), (2, .int (l2i)), (3, .int (l3i)), (4, .int (l4i)), (5, va_rf (h_rf base (l5o))), (6, .int (l6i)), (7, .int (l7i)), (8, .int ((((FI 19 ((l3i) / ((8 : Int32))).toInt.toNat).toUInt32 >>> (((l3i) - (l3i) / ((8 : Int32)) * ((8 : Int32))).toUInt32 &&& Int32.toUInt32 31)).toInt32) &&& ((1 : Int32))))]) [8, 0, 1, 2, 3, 4, 5, 6, 7] (rX11_store_135 hkb a1 (l2i) (l3i) (l4i) (l5o) (l6i) (l7i) ((((FI 19 ((l3i) / ((8 : Int32))).toInt.toNat).toUInt32 >>> (((l3i) - (l3i) / ((8 : Int32)) * ((8 : Int32))).toUInt32 &&& Int32.toUInt32 31)).toInt32) &&& ((1 : Int32))) n3 sl3 SH3 FI3 FL3 FR3 hok3  hK32 hK80) ⟨rfl, rfl, rfl, rfl, rfl, rfl, rfl, rfl, rfl, trivial⟩
      · skip
        refine pw_iinc (v := (l2i) + (1 : Int32)) (L2 := [(2, .int ((l2i) + (1 : Int32))), (8, .int ((((FI 19 ((l3i) / ((8 : Int32))).toInt.toNat).toUInt32 >>> (((l3i) - (l3i) / ((8 : Int32)) * ((8 : Int32))).toUInt32 &&& Int32.toUInt32 31)).toInt32) &&& ((1 : Int32)))), (0, .ref (base + 0)), (1, .int (a1)), (3, .int (l3i)), (4, .int (l4i)), (5, va_rf (h_rf base (l5o))), (6, .int (l6i)), (7, .int (l7i))]) (aX11_store 71 rfl) rfl rfl (by first | rfl | (simp [x_s1, x_s2, va_cat, va_ci, va_cl, va_cr, va_cn]; done) | (simp [x_s1, x_s2, va_cat, va_ci, va_cl, va_cr, va_cn]; decide)) ?_
        exact pw_Li (L2 := [(0, .ref (base + 0)), (1, .int (a1)), (2, .int ((l2i) + (1 : Int32))), (3, .int (l3i)), (4, .int (l4i)), (5, va_rf (h_rf base (l5o))), (6, .int (l6i)), (7, .int (l7i)), (8, .int ((((FI 19 ((l3i) / ((8 : Int32))).toInt.toNat).toUInt32 >>> (((l3i) - (l3i) / ((8 : Int32)) * ((8 : Int32))).toUInt32 &&& Int32.toUInt32 31)).toInt32) &&& ((1 : Int32))))]) [2, 8, 0, 1, 3, 4, 5, 6, 7] (rX11_store_135 hkb a1 ((l2i) + (1 : Int32)) (l3i) (l4i) (l5o) (l6i) (l7i) ((((FI 19 ((l3i) / ((8 : Int32))).toInt.toNat).toUInt32 >>> (((l3i) - (l3i) / ((8 : Int32)) * ((8 : Int32))).toUInt32 &&& Int32.toUInt32 31)).toInt32) &&& ((1 : Int32))) n3 sl3 SH3 FI3 FL3 FR3 hok3  hK32 hK80) ⟨rfl, rfl, rfl, rfl, rfl, rfl, rfl, rfl, rfl, trivial⟩
    · skip
      exact pw_Li (L2 := [(0, .ref (base + 0)), (1, .int (a1)), (2, .int (l2i)), (3, .int (l3i)), (4, .int (l4i)), (5, va_rf (h_rf base (l5o))), (6, .int (l6i)), (7, .int (l7i)), (8, .int (l8i))]) [0, 1, 2, 3, 4, 5, 6, 7, 8] (rX11_store_144 hkb a1 (l2i) (l3i) (l4i) (l5o) (l6i) (l7i) (l8i) n sl SH FI FL FR hok  hK32) ⟨rfl, rfl, rfl, rfl, rfl, rfl, rfl, rfl, rfl, trivial⟩
  · skip
    exact pw_Li (L2 := [(0, .ref (base + 0)), (1, .int (a1)), (2, .int (l2i)), (3, .int (l3i)), (4, .int (l4i)), (5, va_rf (h_rf base (l5o))), (6, .int (l6i)), (7, .int (l7i)), (8, .int (l8i))]) [0, 1, 2, 3, 4, 5, 6, 7, 8] (rX11_store_144 hkb a1 (l2i) (l3i) (l4i) (l5o) (l6i) (l7i) (l8i) n sl SH FI FL FR hok  hK32) ⟨rfl, rfl, rfl, rfl, rfl, rfl, rfl, rfl, rfl, trivial⟩
theorem gX11_store_80 {sk : xK} {base d : Nat} {K32 : Int32 → Int32 → Int32 → Nat → Nat → (Nat → Nat × Nat) → (Nat → Nat → Int32) → (Nat → Nat → Int64) → (Nat → Nat → Option Nat) → Int32 → hS → Prop} (hkb : x_kb sk base) (a1 : Int32) (N : Nat) : (∀ (l2i : Int32) (l3i : Int32) (l4i : Int32) (l5o : Option Nat) (l6i : Int32) (l7i : Int32) (l8i : Int32) (n sl : Nat) (SH : Nat → Nat × Nat) (FI : Nat → Nat → Int32) (FL : Nat → Nat → Int64) (FR : Nat → Nat → Option Nat), pk n SH FR → pw pj_I sk base N d none 144 32 [(0, .ref (base + 0)), (1, .int (a1)), (2, .int (l2i)), (3, .int (l3i)), (4, .int (l4i)), (5, va_rf (h_rf base (l5o))), (6, .int (l6i)), (7, .int (l7i)), (8, .int (l8i))] [] (n, sl, SH, FI, FL, FR) (K32 l2i l3i l4i n sl SH FI FL FR)) →  ∀ (l2i : Int32) (l3i : Int32) (l4i : Int32) (l5o : Option Nat) (l6i : Int32) (l7i : Int32) (l8i : Int32) (n sl : Nat) (SH : Nat → Nat × Nat) (FI : Nat → Nat → Int32) (FL : Nat → Nat → Int64) (FR : Nat → Nat → Option Nat), pk n SH FR → pw pj_I sk base N d none 144 80 [(0, .ref (base + 0)), (1, .int (a1)), (2, .int (l2i)), (3, .int (l3i)), (4, .int (l4i)), (5, va_rf (h_rf base (l5o))), (6, .int (l6i)), (7, .int (l7i)), (8, .int (l8i))] [] (n, sl, SH, FI, FL, FR) (GX11_store_80 K32 a1 (N + 1) l2i l3i l4i l5o l6i l7i n sl SH FI FL FR) := by
  induction N with
  | zero => intros; exact pw_0
  | succ N ih => intro  hK32 l2i l3i l4i l5o l6i l7i l8i n sl SH FI FL FR hok; exact bX11_store_80 hkb a1 l2i l3i l4i l5o l6i l7i l8i n sl SH FI FL FR hok  (fun l2i l3i l4i l5o l6i l7i l8i n sl SH FI FL FR ok => pw_mono (hK32 l2i l3i l4i l5o l6i l7i l8i n sl SH FI FL FR ok) (Nat.le_succ _)) (ih  (fun l2i l3i l4i l5o l6i l7i l8i n sl SH FI FL FR ok => pw_mono (hK32 l2i l3i l4i l5o l6i l7i l8i n sl SH FI FL FR ok) (Nat.le_succ _)))
theorem rX11_store_80 {sk : xK} {base N d : Nat} {K32 : Int32 → Int32 → Int32 → Nat → Nat → (Nat → Nat × Nat) → (Nat → Nat → Int32) → (Nat → Nat → Int64) → (Nat → Nat → Option Nat) → Int32 → hS → Prop} (hkb : x_kb sk base) (a1 : Int32) (l2i : Int32) (l3i : Int32) (l4i : Int32) (l5o : Option Nat) (l6i : Int32) (l7i : Int32) (l8i : Int32) (n sl : Nat) (SH : Nat → Nat × Nat) (FI : Nat → Nat → Int32) (FL : Nat → Nat → Int64) (FR : Nat → Nat → Option Nat) (hok : pk n SH FR)  (hK32 : ∀ (l2i : Int32) (l3i : Int32) (l4i : Int32) (l5o : Option Nat) (l6i : Int32) (l7i : Int32) (l8i : Int32) (n sl : Nat) (SH : Nat → Nat × Nat) (FI : Nat → Nat → Int32) (FL : Nat → Nat → Int64) (FR : Nat → Nat → Option Nat), pk n SH FR → pw pj_I sk base N d none 144 32 [(0, .ref (base + 0)), (1, .int (a1)), (2, .int (l2i)), (3, .int (l3i)), (4, .int (l4i)), (5, va_rf (h_rf base (l5o))), (6, .int (l6i)), (7, .int (l7i)), (8, .int (l8i))] [] (n, sl, SH, FI, FL, FR) (K32 l2i l3i l4i n sl SH FI FL FR)) : pw pj_I sk base N d none 144 80 [(0, .ref (base + 0)), (1, .int (a1)), (2, .int (l2i)), (3, .int (l3i)), (4, .int (l4i)), (5, va_rf (h_rf base (l5o))), (6, .int (l6i)), (7, .int (l7i)), (8, .int (l8i))] [] (n, sl, SH, FI, FL, FR) (RX11_store_80 K32 a1 l2i l3i l4i l5o l6i l7i n sl SH FI FL FR) := pw_cons (gX11_store_80 hkb a1 N  hK32 l2i l3i l4i l5o l6i l7i l8i n sl SH FI FL FR hok) (fun _ _ h => ⟨_, h⟩)
set_option maxHeartbeats 4000000 in
set_option maxRecDepth 100000 in
theorem rX11_store_75 {sk : xK} {base N d : Nat} {K32 : Int32 → Int32 → Int32 → Nat → Nat → (Nat → Nat × Nat) → (Nat → Nat → Int32) → (Nat → Nat → Int64) → (Nat → Nat → Option Nat) → Int32 → hS → Prop} (hkb : x_kb sk base) (a1 : Int32) (l2i : Int32) (l3i : Int32) (l4i : Int32) (l5o : Option Nat) (s0i : Int32) (l6i : Int32) (l7i : Int32) (l8i : Int32) (n sl : Nat) (SH : Nat → Nat × Nat) (FI : Nat → Nat → Int32) (FL : Nat → Nat → Int64) (FR : Nat → Nat → Option Nat) (hok : pk n SH FR)  (hK32 : ∀ (l2i : Int32) (l3i : Int32) (l4i : Int32) (l5o : Option Nat) (l6i : Int32) (l7i : Int32) (l8i : Int32) (n sl : Nat) (SH : Nat → Nat × Nat) (FI : Nat → Nat → Int32) (FL : Nat → Nat → Int64) (FR : Nat → Nat → Option Nat), pk n SH FR → pw pj_I sk base N d none 144 32 [(0, .ref (base + 0)), (1, .int (a1)), (2, .int (l2i)), (3, .int (l3i)), (4, .int (l4i)), (5, va_rf (h_rf base (l5o))), (6, .int (l6i)), (7, .int (l7i)), (8, .int (l8i))] [] (n, sl, SH, FI, FL, FR) (K32 l2i l3i l4i n sl SH FI FL FR)) : pw pj_I sk base N d none 144 75 [(0, .ref (base + 0)), (1, .int (a1)), (2, .int (l2i)), (3, .int (l3i)), (4, .int (l4i)), (5, va_rf (h_rf base (l5o))), (6, .int (l6i)), (7, .int (l7i)), (8, .int (l8i))] [.int (s0i)] (n, sl, SH, FI, FL, FR) (RX11_store_75 K32 a1 l2i l3i l4i l5o s0i n sl SH FI FL FR) := by
  unfold RX11_store_75
  refine pw_istore (L2 := [(6, .int (s0i)), (0, .ref (base + 0)), (1, .int (a1)), (2, .int (l2i)), (3, .int (l3i)), (4, .int (l4i)), (5, va_rf (h_rf base (l5o))), (7, .int (l7i)), (8, .int (l8i))]) (aX11_store 39 rfl) (by first | rfl | (simp [x_s1, x_s2, va_cat, va_ci, va_cl, va_cr, va_cn]; done) | (simp [x_s1, x_s2, va_cat, va_ci, va_cl, va_cr, va_cn]; decide)) ?_
  refine pw_iconst (v := (0 : Int32)) (aX11_store 40 rfl) rfl ?_
  refine pw_istore (L2 := [(7, .int ((0 : Int32))), (6, .int (s0i)), (0, .ref (base + 0)), (1, .int (a1)), (2, .int (l2i)), (3, .int (l3i)), (4, .int (l4i)), (5, va_rf (h_rf base (l5o))), (8, .int (l8i))]) (aX11_store 41 rfl) (by first | rfl | (simp [x_s1, x_s2, va_cat, va_ci, va_cl, va_cr, va_cn]; done) | (simp [x_s1, x_s2, va_cat, va_ci, va_cl, va_cr, va_cn]; decide)) ?_
  exact pw_Li (L2 := [(0, .ref (base + 0)), (1, .int (a1)), (2, .int (l2i)), (3, .int (l3i)), (4, .int (l4i)), (5, va_rf (h_rf base (l5o))), (6, .int (s0i)), (7, .int ((0 : Int32))), (8, .int (l8i))]) [7, 6, 0, 1, 2, 3, 4, 5, 8] (rX11_store_80 hkb a1 (l2i) (l3i) (l4i) (l5o) (s0i) ((0 : Int32)) (l8i) n sl SH FI FL FR hok  hK32) ⟨rfl, rfl, rfl, rfl, rfl, rfl, rfl, rfl, rfl, trivial⟩
set_option maxHeartbeats 4000000 in
set_option maxRecDepth 100000 in
theorem bX11_store_32 {sk : xK} {base N d : Nat} {K32 : Int32 → Int32 → Int32 → Nat → Nat → (Nat → Nat × Nat) → (Nat → Nat → Int32) → (Nat → Nat → Int64) → (Nat → Nat → Option Nat) → Int32 → hS → Prop} (hkb : x_kb sk base) (a1 : Int32) (l2i : Int32) (l3i : Int32) (l4i : Int32) (l5o : Option Nat) (l6i : Int32) (l7i : Int32) (l8i : Int32) (n sl : Nat) (SH : Nat → Nat × Nat) (FI : Nat → Nat → Int32) (FL : Nat → Nat → Int64) (FR : Nat → Nat → Option Nat) (hok : pk n SH FR)  (hK32 : ∀ (l2i : Int32) (l3i : Int32) (l4i : Int32) (l5o : Option Nat) (l6i : Int32) (l7i : Int32) (l8i : Int32) (n sl : Nat) (SH : Nat → Nat × Nat) (FI : Nat → Nat → Int32) (FL : Nat → Nat → Int64) (FR : Nat → Nat → Option Nat), pk n SH FR → pw pj_I sk base N d none 144 32 [(0, .ref (base + 0)), (1, .int (a1)), (2, .int (l2i)), (3, .int (l3i)), (4, .int (l4i)), (5, va_rf (h_rf base (l5o))), (6, .int (l6i)), (7, .int (l7i)), (8, .int (l8i))] [] (n, sl, SH, FI, FL, FR) (K32 l2i l3i l4i n sl SH FI FL FR)) : pw pj_I sk base (N + 1) d none 144 32 [(0, .ref (base + 0)), (1, .int (a1)), (2, .int (l2i)), (3, .int (l3i)), (4, .int (l4i)), (5, va_rf (h_rf base (l5o))), (6, .int (l6i)), (7, .int (l7i)), (8, .int (l8i))] [] (n, sl, SH, FI, FL, FR) (BX11_store_32 K32 a1 l2i l3i l4i n sl SH FI FL FR) := by
  unfold BX11_store_32
  refine pd_iload (aX11_store 20 rfl) rfl ?_
  refine pw_aloadn (aX11_store 21 rfl) rfl ?_
  refine pw_getr (v := .ref (base + 1)) (aX11_store 22 rfl) uf_RX11_10 un_RX11_10 (congrArg (fun r => va_rf (h_rf base r)) (q0_5 (hok).2.1)) ?_
  refine pw_cf (pw_callV (Bs := []) (rest := [.int (l4i)]) (aX11_store 23 rfl) um_RX11_184 ujX8_count wc_RX11_184.2.2.2.2 (by decide) (by decide) rfl rfl (fun d => rX8_count hkb 1 n sl SH FI FL FR hok) (fun v0 n0 sl0 SH0 FI0 FL0 FR0 _ hC => ?_))
  obtain ⟨rfl, hC⟩ := hC; cases hC
  show pw _ _ _ _ _ _ _ 41 _ [.int (fX8_count 1 SH FI FL FR), .int (l4i)] _ _
  refine pw_icge (tgt := 150) (aX11_store 24 rfl) (by decide) (fun b1 => ?_) (fun b1 => ?_)
  · skip
    refine pw_aloadn (aX11_store 25 rfl) rfl ?_
    refine pw_getr (v := .ref (base + 1)) (aX11_store 26 rfl) uf_RX11_10 un_RX11_10 (congrArg (fun r => va_rf (h_rf base r)) (q0_5 (hok).2.1)) ?_
    refine pw_getr (v := .ref (base + 2)) (aX11_store 27 rfl) uf_RX11_188 un_RX11_188 (congrArg (fun r => va_rf (h_rf base r)) (q1_0 (hok).2.1)) ?_
    refine pw_iload (aX11_store 28 rfl) rfl ?_
    refine pw_aaldr (c := 2) (ix := (l4i).toInt.toNat) (aX11_store 29 rfl) rfl (fun _ => ?_)
    refine pw_astore (L2 := [(5, va_rf (h_rf base (FR 2 (l4i).toInt.toNat))), (0, .ref (base + 0)), (1, .int (a1)), (2, .int (l2i)), (3, .int (l3i)), (4, .int (l4i)), (6, .int (l6i)), (7, .int (l7i)), (8, .int (l8i))]) (aX11_store 30 rfl) (by first | rfl | (simp [x_s1, x_s2, va_cat, va_ci, va_cl, va_cr, va_cn]; done) | (simp [x_s1, x_s2, va_cat, va_ci, va_cl, va_cr, va_cn]; decide)) ?_
    refine pw_aloadn (aX11_store 31 rfl) rfl ?_
    refine pw_getr (v := .ref (base + 1)) (aX11_store 32 rfl) uf_RX11_10 un_RX11_10 (congrArg (fun r => va_rf (h_rf base r)) (q0_5 (hok).2.1)) ?_
    refine pw_getr (v := .int (FI 1 1)) (aX11_store 33 rfl) uf_RX11_218 un_RX11_218 rfl ?_
    refine pw_ifne (tgt := 70) (aX11_store 34 rfl) (by decide) (fun b2 => ?_) (fun b2 => ?_)
    · skip
      refine pw_iloadn (aX11_store 35 rfl) rfl ?_
      refine pw_goto (tgt := 75) (aX11_store 36 rfl) (by decide) ?_
      exact pw_Li (L2 := [(0, .ref (base + 0)), (1, .int (a1)), (2, .int (l2i)), (3, .int (l3i)), (4, .int (l4i)), (5, va_rf (h_rf base (FR 2 (l4i).toInt.toNat))), (6, .int (l6i)), (7, .int (l7i)), (8, .int (l8i))]) [5, 0, 1, 2, 3, 4, 6, 7, 8] (rX11_store_75 hkb a1 (l2i) (l3i) (l4i) (FR 2 (l4i).toInt.toNat) (a1) (l6i) (l7i) (l8i) n sl SH FI FL FR hok  hK32) ⟨rfl, rfl, rfl, rfl, rfl, rfl, rfl, rfl, rfl, trivial⟩
    · skip
      refine pw_aload (aX11_store 37 rfl) rfl ?_
      refine pw_get (o := FR 2 (l4i).toInt.toNat) (v := fun c4 => .int (FI c4 2)) (aX11_store 38 rfl) uf_RX11_199 un_RX11_199 (fun _ => rfl) (fun c4 hc4 _ tc4 => ?_)
      exact pw_Li (L2 := [(0, .ref (base + 0)), (1, .int (a1)), (2, .int (l2i)), (3, .int (l3i)), (4, .int (l4i)), (5, va_rf (h_rf base (FR 2 (l4i).toInt.toNat))), (6, .int (l6i)), (7, .int (l7i)), (8, .int (l8i))]) [5, 0, 1, 2, 3, 4, 6, 7, 8] (rX11_store_75 hkb a1 (l2i) (l3i) (l4i) (FR 2 (l4i).toInt.toNat) (FI c4 2) (l6i) (l7i) (l8i) n sl SH FI FL FR hok  hK32) ⟨rfl, rfl, rfl, rfl, rfl, rfl, rfl, rfl, rfl, trivial⟩
  · skip
    refine pw_aloadn (aX11_store 77 rfl) rfl ?_
    refine pw_iconst (v := (0 : Int32)) (aX11_store 78 rfl) rfl ?_
    refine pw_putri (aX11_store 79 rfl) uf_RX11_69 (fun _ _ _ => rfl) (fun t5 => ?_)
    refine pw_iloadn (aX11_store 80 rfl) rfl ?_
    exact pw_iret (aX11_store 81 rfl) hok
theorem gX11_store_32 {sk : xK} {base d : Nat}  (hkb : x_kb sk base) (a1 : Int32) (N : Nat) :  ∀ (l2i : Int32) (l3i : Int32) (l4i : Int32) (l5o : Option Nat) (l6i : Int32) (l7i : Int32) (l8i : Int32) (n sl : Nat) (SH : Nat → Nat × Nat) (FI : Nat → Nat → Int32) (FL : Nat → Nat → Int64) (FR : Nat → Nat → Option Nat), pk n SH FR → pw pj_I sk base N d none 144 32 [(0, .ref (base + 0)), (1, .int (a1)), (2, .int (l2i)), (3, .int (l3i)), (4, .int (l4i)), (5, va_rf (h_rf base (l5o))), (6, .int (l6i)), (7, .int (l7i)), (8, .int (l8i))] [] (n, sl, SH, FI, FL, FR) (GX11_store_32  a1 (N + 1) l2i l3i l4i n sl SH FI FL FR) := by
  induction N with
  | zero => intros; exact pw_0
  | succ N ih => intro   l2i l3i l4i l5o l6i l7i l8i n sl SH FI FL FR hok; exact bX11_store_32 hkb a1 l2i l3i l4i l5o l6i l7i l8i n sl SH FI FL FR hok  (ih  )
theorem rX11_store_32 {sk : xK} {base N d : Nat}  (hkb : x_kb sk base) (a1 : Int32) (l2i : Int32) (l3i : Int32) (l4i : Int32) (l5o : Option Nat) (l6i : Int32) (l7i : Int32) (l8i : Int32) (n sl : Nat) (SH : Nat → Nat × Nat) (FI : Nat → Nat → Int32) (FL : Nat → Nat → Int64) (FR : Nat → Nat → Option Nat) (hok : pk n SH FR)   : pw pj_I sk base N d none 144 32 [(0, .ref (base + 0)), (1, .int (a1)), (2, .int (l2i)), (3, .int (l3i)), (4, .int (l4i)), (5, va_rf (h_rf base (l5o))), (6, .int (l6i)), (7, .int (l7i)), (8, .int (l8i))] [] (n, sl, SH, FI, FL, FR) (RX11_store_32  a1 l2i l3i l4i n sl SH FI FL FR) := pw_cons (gX11_store_32 hkb a1 N   l2i l3i l4i l5o l6i l7i l8i n sl SH FI FL FR hok) (fun _ _ h => ⟨_, h⟩)
set_option maxHeartbeats 4000000 in
set_option maxRecDepth 100000 in
theorem rX11_store {sk : xK} {base N d : Nat} (hkb : x_kb sk base) (a1 : Int32) (n sl : Nat) (SH : Nat → Nat × Nat) (FI : Nat → Nat → Int32) (FL : Nat → Nat → Int64) (FR : Nat → Nat → Option Nat) (hok : pk n SH FR)  : pw pj_I sk base N d none 144 0 [(0, .ref (base + 0)), (1, .int (a1))] [] (n, sl, SH, FI, FL, FR) (RX11_store a1 n sl SH FI FL FR) := by
  unfold RX11_store
  refine pw_iloadn (aX11_store 0 rfl) rfl ?_
  refine pw_iconst (v := (1 : Int32)) (aX11_store 1 rfl) rfl ?_
  refine pw_iclt (tgt := 23) (aX11_store 2 rfl) (by decide) (fun b0 => ?_) (fun b0 => ?_)
  · skip
    refine pw_iconst (v := (-1 : Int32)) (aX11_store 12 rfl) rfl ?_
    exact pw_iret (aX11_store 13 rfl) hok
  · skip
    refine pw_iloadn (aX11_store 3 rfl) rfl ?_
    refine pw_sipush (v := (512 : Int32)) (aX11_store 4 rfl) rfl ?_
    refine pw_icgt (tgt := 23) (aX11_store 5 rfl) (by decide) (fun b1 => ?_) (fun b1 => ?_)
    · skip
      refine pw_iconst (v := (-1 : Int32)) (aX11_store 12 rfl) rfl ?_
      exact pw_iret (aX11_store 13 rfl) hok
    · skip
      refine pw_aloadn (aX11_store 6 rfl) rfl ?_
      refine pw_getr (v := .int (FI 0 9)) (aX11_store 7 rfl) uf_RX11_69 un_RX11_69 rfl ?_
      refine pw_bipush (v := (8 : Int32)) (aX11_store 8 rfl) rfl ?_
      refine pw_imul (aX11_store 9 rfl) ?_
      refine pw_iloadn (aX11_store 10 rfl) rfl ?_
      refine pw_icge (tgt := 25) (aX11_store 11 rfl) (by decide) (fun b2 => ?_) (fun b2 => ?_)
      · skip
        refine pw_iconst (v := (-1 : Int32)) (aX11_store 12 rfl) rfl ?_
        exact pw_iret (aX11_store 13 rfl) hok
      · skip
        refine pw_iconst (v := (0 : Int32)) (aX11_store 14 rfl) rfl ?_
        refine pw_istoren (L2 := [(2, .int ((0 : Int32))), (0, .ref (base + 0)), (1, .int (a1))]) (aX11_store 15 rfl) rfl ?_
        refine pw_iconst (v := (0 : Int32)) (aX11_store 16 rfl) rfl ?_
        refine pw_istoren (L2 := [(3, .int ((0 : Int32))), (2, .int ((0 : Int32))), (0, .ref (base + 0)), (1, .int (a1))]) (aX11_store 17 rfl) rfl ?_
        refine pw_iconst (v := (0 : Int32)) (aX11_store 18 rfl) rfl ?_
        refine pw_istore (L2 := [(4, .int ((0 : Int32))), (3, .int ((0 : Int32))), (2, .int ((0 : Int32))), (0, .ref (base + 0)), (1, .int (a1))]) (aX11_store 19 rfl) rfl ?_
        exact pw_Li (L2 := [(0, .ref (base + 0)), (1, .int (a1)), (2, .int ((0 : Int32))), (3, .int ((0 : Int32))), (4, .int ((0 : Int32))), (5, va_rf (h_rf base none)), (6, .int 0), (7, .int 0), (8, .int 0)]) [4, 3, 2, 0, 1] (rX11_store_32 hkb a1 ((0 : Int32)) ((0 : Int32)) ((0 : Int32)) none 0 0 0 n sl SH FI FL FR hok  ) ⟨rfl, rfl, rfl, rfl, rfl, trivial⟩
set_option maxHeartbeats 4000000 in
set_option maxRecDepth 100000 in
theorem rX11_out {sk : xK} {base N d : Nat} (hkb : x_kb sk base) (a1 : Int32) (n sl : Nat) (SH : Nat → Nat × Nat) (FI : Nat → Nat → Int32) (FL : Nat → Nat → Int64) (FR : Nat → Nat → Option Nat) (hok : pk n SH FR)  : pw pj_I sk base N d none 145 0 [(0, .ref (base + 0)), (1, .int (a1))] [] (n, sl, SH, FI, FL, FR) (P_ret (fX11_out a1 SH FI FL FR) (n, sl, SH, FI, FL, FR)) := by
  unfold fX11_out
  refine pw_iloadn (aX11_out 0 rfl) rfl ?_
  refine pw_ite (pw_iflt (tgt := 12) (aX11_out 1 rfl) (by decide) (fun b0 => ?_) (fun b0 => ?_))
  · skip
    refine pw_iconst (v := (-1 : Int32)) (aX11_out 6 rfl) rfl ?_
    refine pw_goto (tgt := 22) (aX11_out 7 rfl) (by decide) ?_
    exact pw_iret (aX11_out 12 rfl) hok
  · skip
    refine pw_iloadn (aX11_out 2 rfl) rfl ?_
    refine pw_aloadn (aX11_out 3 rfl) rfl ?_
    refine pw_getr (v := .int (FI 0 10)) (aX11_out 4 rfl) uf_RX11_215 un_RX11_215 rfl ?_
    refine pw_ite (pw_iclt (tgt := 16) (aX11_out 5 rfl) (by decide) (fun b1 => ?_) (fun b1 => ?_))
    · skip
      refine pw_aloadn (aX11_out 8 rfl) rfl ?_
      refine pw_getr (v := .ref (base + 20)) (aX11_out 9 rfl) uf_RX11_20 un_RX11_20 (congrArg (fun r => va_rf (h_rf base r)) (q0_7 (hok).2.1)) ?_
      refine pw_iloadn (aX11_out 10 rfl) rfl ?_
      refine pw_sd (pw_ialdr (c := 20) (ix := (a1).toInt.toNat) (aX11_out 11 rfl) rfl (fun _ => ?_))
      exact pw_iret (aX11_out 12 rfl) hok
    · skip
      refine pw_iconst (v := (-1 : Int32)) (aX11_out 6 rfl) rfl ?_
      refine pw_goto (tgt := 22) (aX11_out 7 rfl) (by decide) ?_
      exact pw_iret (aX11_out 12 rfl) hok
set_option maxHeartbeats 4000000 in
set_option maxRecDepth 100000 in
theorem rX2_fail {sk : xK} {base N d : Nat} (hkb : x_kb sk base) (a1 : Int32) (n sl : Nat) (SH : Nat → Nat × Nat) (FI : Nat → Nat → Int32) (FL : Nat → Nat → Int64) (FR : Nat → Nat → Option Nat) (hok : pk n SH FR)  : pw pj_J sk base N d none 31 0 [(0, .ref (base + 90)), (1, .int (a1))] [] (n, sl, SH, FI, FL, FR) (RX2_fail a1 n sl SH FI FL FR) := by
  unfold RX2_fail
  refine pw_aloadn (aX2_fail 0 rfl) rfl ?_
  refine pw_getr (v := .int (FI 90 4)) (aX2_fail 1 rfl) uf_RX2_33 un_RX2_33 rfl ?_
  refine pw_ifne (tgt := 12) (aX2_fail 2 rfl) (by decide) (fun b0 => ?_) (fun b0 => ?_)
  · skip
    refine pw_aloadn (aX2_fail 3 rfl) rfl ?_
    refine pw_iloadn (aX2_fail 4 rfl) rfl ?_
    refine pw_putri (aX2_fail 5 rfl) uf_RX2_33 (fun _ _ _ => rfl) (fun t2 => ?_)
    refine pw_lconst (v := (0 : Int64)) (aX2_fail 6 rfl) rfl ?_
    exact pw_lret (aX2_fail 7 rfl) hok
  · skip
    refine pw_lconst (v := (0 : Int64)) (aX2_fail 6 rfl) rfl ?_
    exact pw_lret (aX2_fail 7 rfl) hok
set_option maxHeartbeats 4000000 in
set_option maxRecDepth 100000 in
theorem rX2_unaryValue {sk : xK} {base N d : Nat} (hkb : x_kb sk base) (a1 : Option Nat) (a2 : Int64) (n sl : Nat) (SH : Nat → Nat × Nat) (FI : Nat → Nat → Int32) (FL : Nat → Nat → Int64) (FR : Nat → Nat → Option Nat) (hok : pk n SH FR)  : pw pj_J sk base N d none 33 0 [(0, .ref (base + 90)), (1, va_rf (h_rf base (a1))), (2, .long (a2))] [] (n, sl, SH, FI, FL, FR) (RX2_unaryValue a1 a2 n sl SH FI FL FR) := by
  unfold RX2_unaryValue
  refine pw_aloadn (aX2_unaryValue 0 rfl) rfl ?_
  refine pw_get (o := a1) (v := fun c1 => .int (FI c1 0)) (aX2_unaryValue 1 rfl) uf_RX2_116 un_RX2_116 (fun _ => rfl) (fun c1 hc1 _ tc1 => ?_)
  refine pw_lsw aX2_unaryValue_4 (fun tg ht => ?_)
  refine pw_case ((FI c1 0).toInt = 6) (fun b2 => ?_) (fun b2 => ?_)
  · have et : tg = 86 := by
      have e9 : Jvm.Op.lookupswitch.offset [(6, 82), (14, 53), (45, 44), (126, 47)] (121) (6) = 82 := (by decide); rw [b2, e9] at ht; omega
    subst et
    refine pw_aloadn (aX2_unaryValue 23 rfl) rfl ?_
    refine pw_get (o := a1) (v := fun c3 => .long (FL c3 1)) (aX2_unaryValue 24 rfl) uf_RX2_119 un_RX2_119 (fun _ => rfl) (fun c3 hc3 _ tc3 => ?_)
    refine pw_l2i (aX2_unaryValue 25 rfl) ?_
    refine pw_istore (L2 := [(4, .int ((FL c3 1).toInt32)), (0, .ref (base + 90)), (1, va_rf (h_rf base (a1))), (2, .long (a2))]) (aX2_unaryValue 26 rfl) (by first | rfl | (simp [x_s1, x_s2, va_cat, va_ci, va_cl, va_cr, va_cn]; done) | (simp [x_s1, x_s2, va_cat, va_ci, va_cl, va_cr, va_cn]; decide)) ?_
    refine pw_aloadn (aX2_unaryValue 27 rfl) rfl ?_
    refine pw_getr (v := .ref (base + 23)) (aX2_unaryValue 28 rfl) uf_RX2_25 un_RX2_25 (congrArg (fun r => va_rf (h_rf base r)) (q90_0 (hok).2.1)) ?_
    refine pw_lloadn (aX2_unaryValue 29 rfl) rfl ?_
    refine pw_iload (aX2_unaryValue 30 rfl) rfl ?_
    refine pw_cf (pw_callV (Bs := [.long (a2), .int ((FL c3 1).toInt32)]) (rest := []) (aX2_unaryValue 31 rfl) um_RX2_192 ujX1_hasBytes wc_RX2_192.2.2.2.2 (by decide) (by decide) rfl rfl (fun d => rX1_hasBytes hkb (a2) ((FL c3 1).toInt32) n sl SH FI FL FR hok) (fun v3 n3 sl3 SH3 FI3 FL3 FR3 _ hC => ?_))
    obtain ⟨rfl, hC⟩ := hC; cases hC
    show pw _ _ _ _ _ _ _ 103 _ [.int (fX1_hasBytes (a2) ((FL c3 1).toInt32) SH FI FL FR)] _ _
    refine pw_ifeq (tgt := 119) (aX2_unaryValue 32 rfl) (by decide) (fun b4 => ?_) (fun b4 => ?_)
    · skip
      refine pw_aloadn (aX2_unaryValue 39 rfl) rfl ?_
      refine pw_iconst (v := (5 : Int32)) (aX2_unaryValue 40 rfl) rfl ?_
      refine pw_callV (Bs := [.int ((5 : Int32))]) (rest := []) (aX2_unaryValue 41 rfl) um_RX2_135 ujX2_fail wc_RX2_135.2.2.2.2 (by decide) (by decide) rfl rfl (fun d => rX2_fail hkb ((5 : Int32)) n sl SH FI FL FR hok) (fun v5 n5 sl5 SH5 FI5 FL5 FR5 hok5 _ => ?_)
      show pw _ _ _ _ _ _ _ 124 _ [.long (v5)] _ _
      exact pw_lret (aX2_unaryValue 42 rfl) hok5
    · skip
      refine pw_aloadn (aX2_unaryValue 33 rfl) rfl ?_
      refine pw_getr (v := .ref (base + 23)) (aX2_unaryValue 34 rfl) uf_RX2_25 un_RX2_25 (congrArg (fun r => va_rf (h_rf base r)) (q90_0 (hok).2.1)) ?_
      refine pw_lloadn (aX2_unaryValue 35 rfl) rfl ?_
      refine pw_iload (aX2_unaryValue 36 rfl) rfl ?_
      refine pw_callV (Bs := [.long (a2), .int ((FL c3 1).toInt32)]) (rest := []) (aX2_unaryValue 37 rfl) um_RX2_196 ujX1_bytes wc_RX2_196.2.2.2.2 (by decide) (by decide) rfl rfl (fun d => rX1_bytes hkb (a2) ((FL c3 1).toInt32) n sl SH FI FL FR hok) (fun v6 n6 sl6 SH6 FI6 FL6 FR6 hok6 _ => ?_)
      show pw _ _ _ _ _ _ _ 116 _ [.long (v6)] _ _
      refine pw_goto (tgt := 124) (aX2_unaryValue 38 rfl) (by decide) ?_
      exact pw_lret (aX2_unaryValue 42 rfl) hok6
  skip
  refine pw_case ((FI c1 0).toInt = 14) (fun b8 => ?_) (fun b8 => ?_)
  · have et : tg = 57 := by
      have e9 : Jvm.Op.lookupswitch.offset [(6, 82), (14, 53), (45, 44), (126, 47)] (121) (14) = 53 := (by decide); rw [b8, e9] at ht; omega
    subst et
    refine pw_aloadn (aX2_unaryValue 9 rfl) rfl ?_
    refine pw_getr (v := .ref (base + 23)) (aX2_unaryValue 10 rfl) uf_RX2_25 un_RX2_25 (congrArg (fun r => va_rf (h_rf base r)) (q90_0 (hok).2.1)) ?_
    refine pw_getr (v := .int (FI 23 9)) (aX2_unaryValue 11 rfl) uf_RX2_186 un_RX2_186 rfl ?_
    refine pw_ifeq (tgt := 79) (aX2_unaryValue 12 rfl) (by decide) (fun b8 => ?_) (fun b8 => ?_)
    · skip
      refine pw_aloadn (aX2_unaryValue 19 rfl) rfl ?_
      refine pw_bipush (v := (11 : Int32)) (aX2_unaryValue 20 rfl) rfl ?_
      refine pw_callV (Bs := [.int ((11 : Int32))]) (rest := []) (aX2_unaryValue 21 rfl) um_RX2_135 ujX2_fail wc_RX2_135.2.2.2.2 (by decide) (by decide) rfl rfl (fun d => rX2_fail hkb ((11 : Int32)) n sl SH FI FL FR hok) (fun v9 n9 sl9 SH9 FI9 FL9 FR9 hok9 _ => ?_)
      show pw _ _ _ _ _ _ _ 85 _ [.long (v9)] _ _
      exact pw_lret (aX2_unaryValue 22 rfl) hok9
    · skip
      refine pw_aloadn (aX2_unaryValue 13 rfl) rfl ?_
      refine pw_getr (v := .ref (base + 23)) (aX2_unaryValue 14 rfl) uf_RX2_25 un_RX2_25 (congrArg (fun r => va_rf (h_rf base r)) (q90_0 (hok).2.1)) ?_
      refine pw_getr (v := .long (FL 23 10)) (aX2_unaryValue 15 rfl) uf_RX2_189 un_RX2_189 rfl ?_
      refine pw_lloadn (aX2_unaryValue 16 rfl) rfl ?_
      refine pw_ladd (aX2_unaryValue 17 rfl) ?_
      refine pw_goto (tgt := 85) (aX2_unaryValue 18 rfl) (by decide) ?_
      exact pw_lret (aX2_unaryValue 22 rfl) hok
  skip
  refine pw_case ((FI c1 0).toInt = 45) (fun b11 => ?_) (fun b11 => ?_)
  · have et : tg = 48 := by
      have e9 : Jvm.Op.lookupswitch.offset [(6, 82), (14, 53), (45, 44), (126, 47)] (121) (45) = 44 := (by decide); rw [b11, e9] at ht; omega
    subst et
    refine pw_lloadn (aX2_unaryValue 2 rfl) rfl ?_
    refine pw_lneg (aX2_unaryValue 3 rfl) ?_
    exact pw_lret (aX2_unaryValue 4 rfl) hok
  skip
  refine pw_case ((FI c1 0).toInt = 126) (fun b12 => ?_) (fun b12 => ?_)
  · have et : tg = 51 := by
      have e9 : Jvm.Op.lookupswitch.offset [(6, 82), (14, 53), (45, 44), (126, 47)] (121) (126) = 47 := (by decide); rw [b12, e9] at ht; omega
    subst et
    refine pw_lloadn (aX2_unaryValue 5 rfl) rfl ?_
    refine pw_ldc2 (v := (-1 : Int64)) (aX2_unaryValue 6 rfl) uk_RX2_184 ?_
    refine pw_lxor (aX2_unaryValue 7 rfl) ?_
    exact pw_lret (aX2_unaryValue 8 rfl) hok
  skip
  have et : tg = 125 := by
    simp only [Jvm.Op.lookupswitch.offset] at ht; rw [if_neg (by omega), if_neg (by omega), if_neg (by omega), if_neg (by omega)] at ht; omega
  subst et
  refine pw_lloadn (aX2_unaryValue 43 rfl) rfl ?_
  exact pw_lret (aX2_unaryValue 44 rfl) hok
set_option maxHeartbeats 4000000 in
set_option maxRecDepth 100000 in
theorem rX2_value {sk : xK} {base N d : Nat} (hkb : x_kb sk base) (MX2_value : Option Nat → Int32 → Nat → Nat → (Nat → Nat × Nat) → (Nat → Nat → Int32) → (Nat → Nat → Int64) → (Nat → Nat → Option Nat) → Int64 → hS → Prop) (MX2_chainValue : Option Nat → Int32 → Nat → Nat → (Nat → Nat × Nat) → (Nat → Nat → Int32) → (Nat → Nat → Int64) → (Nat → Nat → Option Nat) → Int64 → hS → Prop) (a1 : Option Nat) (a2 : Int32) (n sl : Nat) (SH : Nat → Nat × Nat) (FI : Nat → Nat → Int32) (FL : Nat → Nat → Int64) (FR : Nat → Nat → Option Nat) (hok : pk n SH FR) (hMX2_value : ∀ (a1 : Option Nat) (a2 : Int32) (n sl : Nat) (SH : Nat → Nat × Nat) (FI : Nat → Nat → Int32) (FL : Nat → Nat → Int64) (FR : Nat → Nat → Option Nat), pk n SH FR → ∀ d, pw pj_J sk base (N - 1) d none 30 0 [(0, .ref (base + 90)), (1, va_rf (h_rf base (a1))), (2, .int (a2))] [] (n, sl, SH, FI, FL, FR) (MX2_value a1 a2 n sl SH FI FL FR)) (hMX2_chainValue : ∀ (a1 : Option Nat) (a2 : Int32) (n sl : Nat) (SH : Nat → Nat × Nat) (FI : Nat → Nat → Int32) (FL : Nat → Nat → Int64) (FR : Nat → Nat → Option Nat), pk n SH FR → ∀ d, pw pj_J sk base (N - 1) d none 32 0 [(0, .ref (base + 90)), (1, va_rf (h_rf base (a1))), (2, .int (a2))] [] (n, sl, SH, FI, FL, FR) (MX2_chainValue a1 a2 n sl SH FI FL FR)) : pw pj_J sk base N d none 30 0 [(0, .ref (base + 90)), (1, va_rf (h_rf base (a1))), (2, .int (a2))] [] (n, sl, SH, FI, FL, FR) (RX2_value MX2_value MX2_chainValue a1 a2 n sl SH FI FL FR) := by
  unfold RX2_value
  refine pw_aloadn (aX2_value 0 rfl) rfl ?_
  refine pw_inull (o := a1) (tgt := 17) (aX2_value 1 rfl) (by decide) (fun b0 => ?_) (fun b0 => ?_)
  · skip
    refine pw_lconst (v := (0 : Int64)) (aX2_value 8 rfl) rfl ?_
    exact pw_lret (aX2_value 9 rfl) hok
  · skip
    refine pw_aloadn (aX2_value 2 rfl) rfl ?_
    refine pw_getr (v := .int (FI 90 4)) (aX2_value 3 rfl) uf_RX2_33 un_RX2_33 rfl ?_
    refine pw_ifne (tgt := 17) (aX2_value 4 rfl) (by decide) (fun b1 => ?_) (fun b1 => ?_)
    · skip
      refine pw_iloadn (aX2_value 5 rfl) rfl ?_
      refine pw_bipush (v := (120 : Int32)) (aX2_value 6 rfl) rfl ?_
      refine pw_icle (tgt := 19) (aX2_value 7 rfl) (by decide) (fun b2 => ?_) (fun b2 => ?_)
      · skip
        refine pw_lconst (v := (0 : Int64)) (aX2_value 8 rfl) rfl ?_
        exact pw_lret (aX2_value 9 rfl) hok
      · skip
        refine pw_aloadn (aX2_value 10 rfl) rfl ?_
        refine pw_get (o := a1) (v := fun c4 => .int (FI c4 0)) (aX2_value 11 rfl) uf_RX2_116 un_RX2_116 (fun _ => rfl) (fun c4 hc4 _ tc4 => ?_)
        refine pw_lsw aX2_value_23 (fun tg ht => ?_)
        refine pw_case ((FI c4 0).toInt = 5) (fun b5 => ?_) (fun b5 => ?_)
        · have et : tg = 88 := by
            have e9 : Jvm.Op.lookupswitch.offset [(5, 65), (11, 82), (12, 115), (13, 143), (25, 205), (37, 70), (63, 170)] (212) (5) = 65 := (by decide); rw [b5, e9] at ht; omega
          subst et
          refine pw_aloadn (aX2_value 12 rfl) rfl ?_
          refine pw_get (o := a1) (v := fun c6 => .long (FL c6 1)) (aX2_value 13 rfl) uf_RX2_119 un_RX2_119 (fun _ => rfl) (fun c6 hc6 _ tc6 => ?_)
          exact pw_lret (aX2_value 14 rfl) hok
        skip
        refine pw_case ((FI c4 0).toInt = 11) (fun b7 => ?_) (fun b7 => ?_)
        · have et : tg = 105 := by
            have e9 : Jvm.Op.lookupswitch.offset [(5, 65), (11, 82), (12, 115), (13, 143), (25, 205), (37, 70), (63, 170)] (212) (11) = 82 := (by decide); rw [b7, e9] at ht; omega
          subst et
          refine pw_aloadn (aX2_value 21 rfl) rfl ?_
          refine pw_getr (v := .ref (base + 48)) (aX2_value 22 rfl) uf_RX2_29 un_RX2_29 (congrArg (fun r => va_rf (h_rf base r)) (q90_1 (hok).2.1)) ?_
          refine pw_sipush (v := (1000 : Int32)) (aX2_value 23 rfl) rfl ?_
          refine pw_iconst (v := (0 : Int32)) (aX2_value 24 rfl) rfl ?_
          refine pw_iconst (v := (0 : Int32)) (aX2_value 25 rfl) rfl ?_
          refine pw_callV (Bs := [.int ((1000 : Int32)), .int ((0 : Int32)), .int ((0 : Int32))]) (rest := []) (aX2_value 26 rfl) um_RX2_126 ujX9_base wc_RX2_126.2.2.2.2 (by decide) (by decide) rfl rfl (fun d => rX9_base hkb ((1000 : Int32)) ((0 : Int32)) ((0 : Int32)) n sl SH FI FL FR hok) (fun v7 n7 sl7 SH7 FI7 FL7 FR7 hok7 _ => ?_)
          show pw _ _ _ _ _ _ _ 117 _ [.int (v7)] _ _
          refine pw_istoren (L2 := [(3, .int (v7)), (0, .ref (base + 90)), (1, va_rf (h_rf base (a1))), (2, .int (a2))]) (aX2_value 27 rfl) (by first | rfl | (simp [x_s1, x_s2, va_cat, va_ci, va_cl, va_cr, va_cn]; done) | (simp [x_s1, x_s2, va_cat, va_ci, va_cl, va_cr, va_cn]; decide)) ?_
          refine pw_iloadn (aX2_value 28 rfl) rfl ?_
          refine pw_ifne (tgt := 132) (aX2_value 29 rfl) (by decide) (fun b8 => ?_) (fun b8 => ?_)
          · skip
            refine pw_aloadn (aX2_value 30 rfl) rfl ?_
            refine pw_getr (v := .ref (base + 48)) (aX2_value 31 rfl) uf_RX2_29 un_RX2_29 (congrArg (fun r => va_rf (h_rf base r)) (q90_1 (hok7).2.1)) ?_
            refine pw_getr (v := .long (FL7 48 15)) (aX2_value 32 rfl) uf_RX2_132 un_RX2_132 rfl ?_
            refine pw_goto (tgt := 137) (aX2_value 33 rfl) (by decide) ?_
            exact pw_lret (aX2_value 37 rfl) hok7
          · skip
            refine pw_aloadn (aX2_value 34 rfl) rfl ?_
            refine pw_iloadn (aX2_value 35 rfl) rfl ?_
            refine pw_callV (Bs := [.int (v7)]) (rest := []) (aX2_value 36 rfl) um_RX2_135 ujX2_fail wc_RX2_135.2.2.2.2 (by decide) (by decide) rfl rfl (fun d => rX2_fail hkb (v7) n7 sl7 SH7 FI7 FL7 FR7 hok7) (fun v9 n9 sl9 SH9 FI9 FL9 FR9 hok9 _ => ?_)
            show pw _ _ _ _ _ _ _ 137 _ [.long (v9)] _ _
            exact pw_lret (aX2_value 37 rfl) hok9
        skip
        refine pw_case ((FI c4 0).toInt = 12) (fun b11 => ?_) (fun b11 => ?_)
        · have et : tg = 138 := by
            have e9 : Jvm.Op.lookupswitch.offset [(5, 65), (11, 82), (12, 115), (13, 143), (25, 205), (37, 70), (63, 170)] (212) (12) = 115 := (by decide); rw [b11, e9] at ht; omega
          subst et
          refine pw_aloadn (aX2_value 38 rfl) rfl ?_
          refine pw_getr (v := .ref (base + 23)) (aX2_value 39 rfl) uf_RX2_25 un_RX2_25 (congrArg (fun r => va_rf (h_rf base r)) (q90_0 (hok).2.1)) ?_
          refine pw_getr (v := .int (FI 23 5)) (aX2_value 40 rfl) uf_RX2_139 un_RX2_139 rfl ?_
          refine pw_iconst (v := (-1 : Int32)) (aX2_value 41 rfl) rfl ?_
          refine pw_icne (tgt := 158) (aX2_value 42 rfl) (by decide) (fun b11 => ?_) (fun b11 => ?_)
          · skip
            refine pw_aloadn (aX2_value 43 rfl) rfl ?_
            refine pw_bipush (v := (11 : Int32)) (aX2_value 44 rfl) rfl ?_
            refine pw_callV (Bs := [.int ((11 : Int32))]) (rest := []) (aX2_value 45 rfl) um_RX2_135 ujX2_fail wc_RX2_135.2.2.2.2 (by decide) (by decide) rfl rfl (fun d => rX2_fail hkb ((11 : Int32)) n sl SH FI FL FR hok) (fun v12 n12 sl12 SH12 FI12 FL12 FR12 hok12 _ => ?_)
            show pw _ _ _ _ _ _ _ 155 _ [.long (v12)] _ _
            refine pw_goto (tgt := 165) (aX2_value 46 rfl) (by decide) ?_
            exact pw_lret (aX2_value 50 rfl) hok12
          · skip
            refine pw_aloadn (aX2_value 47 rfl) rfl ?_
            refine pw_getr (v := .ref (base + 23)) (aX2_value 48 rfl) uf_RX2_25 un_RX2_25 (congrArg (fun r => va_rf (h_rf base r)) (q90_0 (hok).2.1)) ?_
            refine pw_cf (pw_callV (Bs := []) (rest := []) (aX2_value 49 rfl) um_RX2_142 ujX1_cfaValue wc_RX2_142.2.2.2.2 (by decide) (by decide) rfl rfl (fun d => rX1_cfaValue hkb  n sl SH FI FL FR hok) (fun v13 n13 sl13 SH13 FI13 FL13 FR13 _ hC => ?_))
            obtain ⟨rfl, hC⟩ := hC; cases hC
            show pw _ _ _ _ _ _ _ 165 _ [.long (fX1_cfaValue  SH FI FL FR)] _ _
            exact pw_lret (aX2_value 50 rfl) hok
        skip
        refine pw_case ((FI c4 0).toInt = 13) (fun b15 => ?_) (fun b15 => ?_)
        · have et : tg = 166 := by
            have e9 : Jvm.Op.lookupswitch.offset [(5, 65), (11, 82), (12, 115), (13, 143), (25, 205), (37, 70), (63, 170)] (212) (13) = 143 := (by decide); rw [b15, e9] at ht; omega
          subst et
          refine pw_aloadn (aX2_value 51 rfl) rfl ?_
          refine pw_getr (v := .ref (base + 23)) (aX2_value 52 rfl) uf_RX2_25 un_RX2_25 (congrArg (fun r => va_rf (h_rf base r)) (q90_0 (hok).2.1)) ?_
          refine pw_getr (v := .int (FI 23 7)) (aX2_value 53 rfl) uf_RX2_146 un_RX2_146 rfl ?_
          refine pw_ifeq (tgt := 186) (aX2_value 54 rfl) (by decide) (fun b15 => ?_) (fun b15 => ?_)
          · skip
            refine pw_aloadn (aX2_value 59 rfl) rfl ?_
            refine pw_bipush (v := (11 : Int32)) (aX2_value 60 rfl) rfl ?_
            refine pw_callV (Bs := [.int ((11 : Int32))]) (rest := []) (aX2_value 61 rfl) um_RX2_135 ujX2_fail wc_RX2_135.2.2.2.2 (by decide) (by decide) rfl rfl (fun d => rX2_fail hkb ((11 : Int32)) n sl SH FI FL FR hok) (fun v16 n16 sl16 SH16 FI16 FL16 FR16 hok16 _ => ?_)
            show pw _ _ _ _ _ _ _ 192 _ [.long (v16)] _ _
            exact pw_lret (aX2_value 62 rfl) hok16
          · skip
            refine pw_aloadn (aX2_value 55 rfl) rfl ?_
            refine pw_getr (v := .ref (base + 23)) (aX2_value 56 rfl) uf_RX2_25 un_RX2_25 (congrArg (fun r => va_rf (h_rf base r)) (q90_0 (hok).2.1)) ?_
            refine pw_getr (v := .long (FL 23 8)) (aX2_value 57 rfl) uf_RX2_150 un_RX2_150 rfl ?_
            refine pw_goto (tgt := 192) (aX2_value 58 rfl) (by decide) ?_
            exact pw_lret (aX2_value 62 rfl) hok
        skip
        refine pw_case ((FI c4 0).toInt = 25) (fun b18 => ?_) (fun b18 => ?_)
        · have et : tg = 228 := by
            have e9 : Jvm.Op.lookupswitch.offset [(5, 65), (11, 82), (12, 115), (13, 143), (25, 205), (37, 70), (63, 170)] (212) (25) = 205 := (by decide); rw [b18, e9] at ht; omega
          subst et
          refine pw_aloadn (aX2_value 84 rfl) rfl ?_
          refine pw_aloadn (aX2_value 85 rfl) rfl ?_
          refine pw_iloadn (aX2_value 86 rfl) rfl ?_
          refine pw_callV (Bs := [va_rf (h_rf base (a1)), .int (a2)]) (L2 := [(0, .ref (base + 90)), (1, va_rf (h_rf base (a1))), (2, .int (a2))]) (rest := []) (aX2_value 87 rfl) um_RX2_162 ujX2_chainValue wc_RX2_162.2.2.2.2 (by decide) (by decide) rfl (by first | rfl | simp [lv_args, va_cat, va_ci, va_cl, va_cr, va_cn]) (fun d => pw_mono (hMX2_chainValue (a1) (a2) n sl SH FI FL FR hok d) (by omega)) (fun v18 n18 sl18 SH18 FI18 FL18 FR18 hok18 _ => ?_)
          show pw _ _ _ _ _ _ _ 234 _ [.long (v18)] _ _
          exact pw_lret (aX2_value 88 rfl) hok18
        skip
        refine pw_case ((FI c4 0).toInt = 37) (fun b20 => ?_) (fun b20 => ?_)
        · have et : tg = 93 := by
            have e9 : Jvm.Op.lookupswitch.offset [(5, 65), (11, 82), (12, 115), (13, 143), (25, 205), (37, 70), (63, 170)] (212) (37) = 70 := (by decide); rw [b20, e9] at ht; omega
          subst et
          refine pw_aloadn (aX2_value 15 rfl) rfl ?_
          refine pw_getr (v := .ref (base + 23)) (aX2_value 16 rfl) uf_RX2_25 un_RX2_25 (congrArg (fun r => va_rf (h_rf base r)) (q90_0 (hok).2.1)) ?_
          refine pw_aloadn (aX2_value 17 rfl) rfl ?_
          refine pw_get (o := a1) (v := fun c21 => .long (FL c21 1)) (aX2_value 18 rfl) uf_RX2_119 un_RX2_119 (fun _ => rfl) (fun c21 hc21 _ tc21 => ?_)
          refine pw_cf (pw_callV (Bs := [.long (FL c21 1)]) (rest := []) (aX2_value 19 rfl) um_RX2_120 ujX1_registerValue wc_RX2_120.2.2.2.2 (by decide) (by decide) rfl rfl (fun d => rX1_registerValue hkb (FL c21 1) n sl SH FI FL FR hok) (fun v21 n21 sl21 SH21 FI21 FL21 FR21 _ hC => ?_))
          obtain ⟨rfl, hC⟩ := hC; cases hC
          show pw _ _ _ _ _ _ _ 104 _ [.long (fX1_registerValue (FL c21 1) SH FI FL FR)] _ _
          exact pw_lret (aX2_value 20 rfl) hok
        skip
        refine pw_case ((FI c4 0).toInt = 63) (fun b23 => ?_) (fun b23 => ?_)
        · have et : tg = 193 := by
            have e9 : Jvm.Op.lookupswitch.offset [(5, 65), (11, 82), (12, 115), (13, 143), (25, 205), (37, 70), (63, 170)] (212) (63) = 170 := (by decide); rw [b23, e9] at ht; omega
          subst et
          refine pw_aloadn (aX2_value 63 rfl) rfl ?_
          refine pw_aloadn (aX2_value 64 rfl) rfl ?_
          refine pw_aloadn (aX2_value 65 rfl) rfl ?_
          refine pw_get (o := a1) (v := fun c24 => va_rf (h_rf base (FR c24 3))) (aX2_value 66 rfl) uf_RX2_153 un_RX2_153 (fun _ => rfl) (fun c24 hc24 _ tc24 => ?_)
          refine pw_iloadn (aX2_value 67 rfl) rfl ?_
          refine pw_iconst (v := (1 : Int32)) (aX2_value 68 rfl) rfl ?_
          refine pw_iadd (aX2_value 69 rfl) ?_
          refine pw_callV (Bs := [va_rf (h_rf base (FR c24 3)), .int ((a2) + ((1 : Int32)))]) (L2 := [(0, .ref (base + 90)), (1, va_rf (h_rf base (FR c24 3))), (2, .int ((a2) + ((1 : Int32))))]) (rest := [.ref (base + 90)]) (aX2_value 70 rfl) um_RX2_104 ujX2_value wc_RX2_104.2.2.2.2 (by decide) (by decide) rfl (by first | rfl | simp [lv_args, va_cat, va_ci, va_cl, va_cr, va_cn]) (fun d => pw_mono (hMX2_value (FR c24 3) ((a2) + ((1 : Int32))) n sl SH FI FL FR hok d) (by omega)) (fun v24 n24 sl24 SH24 FI24 FL24 FR24 hok24 _ => ?_)
          show pw _ _ _ _ _ _ _ 205 _ [.long (v24), .ref (base + 90)] _ _
          refine pw_lconst (v := (0 : Int64)) (aX2_value 71 rfl) rfl ?_
          refine pw_lceq (tgt := 217) (aX2_value 72 rfl) (aX2_value 73 rfl) (by decide) (fun b25 => ?_) (fun b25 => ?_)
          · skip
            refine pw_aloadn (aX2_value 77 rfl) rfl ?_
            refine pw_get (o := a1) (v := fun c27 => va_rf (h_rf base (FR24 c27 5))) (aX2_value 78 rfl) uf_RX2_159 un_RX2_159 (fun _ => rfl) (fun c27 hc27 _ tc27 => ?_)
            refine pw_iloadn (aX2_value 79 rfl) rfl ?_
            refine pw_iconst (v := (1 : Int32)) (aX2_value 80 rfl) rfl ?_
            refine pw_iadd (aX2_value 81 rfl) ?_
            refine pw_callV (Bs := [va_rf (h_rf base (FR24 c27 5)), .int ((a2) + ((1 : Int32)))]) (L2 := [(0, .ref (base + 90)), (1, va_rf (h_rf base (FR24 c27 5))), (2, .int ((a2) + ((1 : Int32))))]) (rest := []) (aX2_value 82 rfl) um_RX2_104 ujX2_value wc_RX2_104.2.2.2.2 (by decide) (by decide) rfl (by first | rfl | simp [lv_args, va_cat, va_ci, va_cl, va_cr, va_cn]) (fun d => pw_mono (hMX2_value (FR24 c27 5) ((a2) + ((1 : Int32))) n24 sl24 SH24 FI24 FL24 FR24 hok24 d) (by omega)) (fun v27 n27 sl27 SH27 FI27 FL27 FR27 hok27 _ => ?_)
            show pw _ _ _ _ _ _ _ 227 _ [.long (v27)] _ _
            exact pw_lret (aX2_value 83 rfl) hok27
          · skip
            refine pw_aloadn (aX2_value 74 rfl) rfl ?_
            refine pw_get (o := a1) (v := fun c29 => va_rf (h_rf base (FR24 c29 4))) (aX2_value 75 rfl) uf_RX2_156 un_RX2_156 (fun _ => rfl) (fun c29 hc29 _ tc29 => ?_)
            refine pw_goto (tgt := 221) (aX2_value 76 rfl) (by decide) ?_
            refine pw_iloadn (aX2_value 79 rfl) rfl ?_
            refine pw_iconst (v := (1 : Int32)) (aX2_value 80 rfl) rfl ?_
            refine pw_iadd (aX2_value 81 rfl) ?_
            refine pw_callV (Bs := [va_rf (h_rf base (FR24 c29 4)), .int ((a2) + ((1 : Int32)))]) (L2 := [(0, .ref (base + 90)), (1, va_rf (h_rf base (FR24 c29 4))), (2, .int ((a2) + ((1 : Int32))))]) (rest := []) (aX2_value 82 rfl) um_RX2_104 ujX2_value wc_RX2_104.2.2.2.2 (by decide) (by decide) rfl (by first | rfl | simp [lv_args, va_cat, va_ci, va_cl, va_cr, va_cn]) (fun d => pw_mono (hMX2_value (FR24 c29 4) ((a2) + ((1 : Int32))) n24 sl24 SH24 FI24 FL24 FR24 hok24 d) (by omega)) (fun v29 n29 sl29 SH29 FI29 FL29 FR29 hok29 _ => ?_)
            show pw _ _ _ _ _ _ _ 227 _ [.long (v29)] _ _
            exact pw_lret (aX2_value 83 rfl) hok29
        skip
        have et : tg = 235 := by
          simp only [Jvm.Op.lookupswitch.offset] at ht; rw [if_neg (by omega), if_neg (by omega), if_neg (by omega), if_neg (by omega), if_neg (by omega), if_neg (by omega), if_neg (by omega)] at ht; omega
        subst et
        refine pw_aloadn (aX2_value 89 rfl) rfl ?_
        refine pw_aloadn (aX2_value 90 rfl) rfl ?_
        refine pw_aloadn (aX2_value 91 rfl) rfl ?_
        refine pw_aloadn (aX2_value 92 rfl) rfl ?_
        refine pw_get (o := a1) (v := fun c31 => va_rf (h_rf base (FR c31 3))) (aX2_value 93 rfl) uf_RX2_153 un_RX2_153 (fun _ => rfl) (fun c31 hc31 _ tc31 => ?_)
        refine pw_iloadn (aX2_value 94 rfl) rfl ?_
        refine pw_iconst (v := (1 : Int32)) (aX2_value 95 rfl) rfl ?_
        refine pw_iadd (aX2_value 96 rfl) ?_
        refine pw_callV (Bs := [va_rf (h_rf base (FR c31 3)), .int ((a2) + ((1 : Int32)))]) (L2 := [(0, .ref (base + 90)), (1, va_rf (h_rf base (FR c31 3))), (2, .int ((a2) + ((1 : Int32))))]) (rest := [va_rf (h_rf base (a1)), .ref (base + 90)]) (aX2_value 97 rfl) um_RX2_104 ujX2_value wc_RX2_104.2.2.2.2 (by decide) (by decide) rfl (by first | rfl | simp [lv_args, va_cat, va_ci, va_cl, va_cr, va_cn]) (fun d => pw_mono (hMX2_value (FR c31 3) ((a2) + ((1 : Int32))) n sl SH FI FL FR hok d) (by omega)) (fun v31 n31 sl31 SH31 FI31 FL31 FR31 hok31 _ => ?_)
        show pw _ _ _ _ _ _ _ 248 _ [.long (v31), va_rf (h_rf base (a1)), .ref (base + 90)] _ _
        refine pw_callV (Bs := [va_rf (h_rf base (a1)), .long (v31)]) (L2 := [(0, .ref (base + 90)), (1, va_rf (h_rf base (a1))), (2, .long (v31))]) (rest := []) (aX2_value 98 rfl) um_RX2_165 ujX2_unaryValue wc_RX2_165.2.2.2.2 (by decide) (by decide) rfl (by first | rfl | simp [lv_args, va_cat, va_ci, va_cl, va_cr, va_cn]) (fun d => rX2_unaryValue hkb (a1) (v31) n31 sl31 SH31 FI31 FL31 FR31 hok31) (fun v32 n32 sl32 SH32 FI32 FL32 FR32 hok32 _ => ?_)
        show pw _ _ _ _ _ _ _ 251 _ [.long (v32)] _ _
        exact pw_lret (aX2_value 99 rfl) hok32
    · skip
      refine pw_lconst (v := (0 : Int64)) (aX2_value 8 rfl) rfl ?_
      exact pw_lret (aX2_value 9 rfl) hok
set_option maxHeartbeats 4000000 in
set_option maxRecDepth 100000 in
theorem rX2_chainValue_101 {sk : xK} {base N d : Nat} {K30 : Int64 → Option Nat → Nat → Nat → (Nat → Nat × Nat) → (Nat → Nat → Int32) → (Nat → Nat → Int64) → (Nat → Nat → Option Nat) → Int64 → hS → Prop} (hkb : x_kb sk base) (MX2_value : Option Nat → Int32 → Nat → Nat → (Nat → Nat × Nat) → (Nat → Nat → Int32) → (Nat → Nat → Int64) → (Nat → Nat → Option Nat) → Int64 → hS → Prop) (MX2_chainValue : Option Nat → Int32 → Nat → Nat → (Nat → Nat × Nat) → (Nat → Nat → Int32) → (Nat → Nat → Int64) → (Nat → Nat → Option Nat) → Int64 → hS → Prop) (a1 : Option Nat) (a2 : Int32) (l5o : Option Nat) (s0l : Int64) (l3l : Int64) (l6l : Int64) (l8i : Int32) (n sl : Nat) (SH : Nat → Nat × Nat) (FI : Nat → Nat → Int32) (FL : Nat → Nat → Int64) (FR : Nat → Nat → Option Nat) (hok : pk n SH FR) (hMX2_value : ∀ (a1 : Option Nat) (a2 : Int32) (n sl : Nat) (SH : Nat → Nat × Nat) (FI : Nat → Nat → Int32) (FL : Nat → Nat → Int64) (FR : Nat → Nat → Option Nat), pk n SH FR → ∀ d, pw pj_J sk base (N - 1) d none 30 0 [(0, .ref (base + 90)), (1, va_rf (h_rf base (a1))), (2, .int (a2))] [] (n, sl, SH, FI, FL, FR) (MX2_value a1 a2 n sl SH FI FL FR)) (hMX2_chainValue : ∀ (a1 : Option Nat) (a2 : Int32) (n sl : Nat) (SH : Nat → Nat × Nat) (FI : Nat → Nat → Int32) (FL : Nat → Nat → Int64) (FR : Nat → Nat → Option Nat), pk n SH FR → ∀ d, pw pj_J sk base (N - 1) d none 32 0 [(0, .ref (base + 90)), (1, va_rf (h_rf base (a1))), (2, .int (a2))] [] (n, sl, SH, FI, FL, FR) (MX2_chainValue a1 a2 n sl SH FI FL FR)) (hK30 : ∀ (l3l : Int64) (l5o : Option Nat) (l6l : Int64) (l8i : Int32) (n sl : Nat) (SH : Nat → Nat × Nat) (FI : Nat → Nat → Int32) (FL : Nat → Nat → Int64) (FR : Nat → Nat → Option Nat), pk n SH FR → pw pj_J sk base N d none 32 30 [(0, .ref (base + 90)), (1, va_rf (h_rf base (a1))), (2, .int (a2)), (3, .long (l3l)), (5, va_rf (h_rf base (l5o))), (6, .long (l6l)), (8, .int (l8i))] [] (n, sl, SH, FI, FL, FR) (K30 l3l l5o n sl SH FI FL FR)) : pw pj_J sk base N d none 32 101 [(0, .ref (base + 90)), (1, va_rf (h_rf base (a1))), (2, .int (a2)), (3, .long (l3l)), (5, va_rf (h_rf base (l5o))), (6, .long (l6l)), (8, .int (l8i))] [.long (s0l)] (n, sl, SH, FI, FL, FR) (RX2_chainValue_101 K30 MX2_value MX2_chainValue a1 a2 l5o s0l n sl SH FI FL FR) := by
  unfold RX2_chainValue_101
  refine pw_lstoren (L2 := [(3, .long (s0l)), (0, .ref (base + 90)), (1, va_rf (h_rf base (a1))), (2, .int (a2)), (5, va_rf (h_rf base (l5o))), (6, .long (l6l)), (8, .int (l8i))]) (aX2_chainValue 51 rfl) (by first | rfl | (simp [x_s1, x_s2, va_cat, va_ci, va_cl, va_cr, va_cn]; done) | (simp [x_s1, x_s2, va_cat, va_ci, va_cl, va_cr, va_cn]; decide)) ?_
  refine pw_aload (aX2_chainValue 52 rfl) rfl ?_
  refine pw_get (o := l5o) (v := fun c1 => va_rf (h_rf base (FR c1 6))) (aX2_chainValue 53 rfl) uf_RX2_169 un_RX2_169 (fun _ => rfl) (fun c1 hc1 _ tc1 => ?_)
  refine pw_astore (L2 := [(5, va_rf (h_rf base (FR c1 6))), (3, .long (s0l)), (0, .ref (base + 90)), (1, va_rf (h_rf base (a1))), (2, .int (a2)), (6, .long (l6l)), (8, .int (l8i))]) (aX2_chainValue 54 rfl) (by first | rfl | (simp [x_s1, x_s2, va_cat, va_ci, va_cl, va_cr, va_cn]; done) | (simp [x_s1, x_s2, va_cat, va_ci, va_cl, va_cr, va_cn]; decide)) ?_
  refine pw_goto (tgt := 30) (aX2_chainValue 55 rfl) (by decide) ?_
  exact pw_Li (L2 := [(0, .ref (base + 90)), (1, va_rf (h_rf base (a1))), (2, .int (a2)), (3, .long (s0l)), (5, va_rf (h_rf base (FR c1 6))), (6, .long (l6l)), (8, .int (l8i))]) [4, 3, 0, 1, 2, 5, 6] (hK30 (s0l) (FR c1 6) (l6l) (l8i) n sl SH FI FL FR hok) ⟨rfl, rfl, rfl, rfl, rfl, rfl, rfl, trivial⟩
set_option maxHeartbeats 4000000 in
set_option maxRecDepth 100000 in
theorem rX2_chainValue_93 {sk : xK} {base N d : Nat} {K30 : Int64 → Option Nat → Nat → Nat → (Nat → Nat × Nat) → (Nat → Nat → Int32) → (Nat → Nat → Int64) → (Nat → Nat → Option Nat) → Int64 → hS → Prop} (hkb : x_kb sk base) (MX2_value : Option Nat → Int32 → Nat → Nat → (Nat → Nat × Nat) → (Nat → Nat → Int32) → (Nat → Nat → Int64) → (Nat → Nat → Option Nat) → Int64 → hS → Prop) (MX2_chainValue : Option Nat → Int32 → Nat → Nat → (Nat → Nat × Nat) → (Nat → Nat → Int32) → (Nat → Nat → Int64) → (Nat → Nat → Option Nat) → Int64 → hS → Prop) (a1 : Option Nat) (a2 : Int32) (l3l : Int64) (l5o : Option Nat) (l6l : Int64) (l8i : Int32)  (n sl : Nat) (SH : Nat → Nat × Nat) (FI : Nat → Nat → Int32) (FL : Nat → Nat → Int64) (FR : Nat → Nat → Option Nat) (hok : pk n SH FR) (hMX2_value : ∀ (a1 : Option Nat) (a2 : Int32) (n sl : Nat) (SH : Nat → Nat × Nat) (FI : Nat → Nat → Int32) (FL : Nat → Nat → Int64) (FR : Nat → Nat → Option Nat), pk n SH FR → ∀ d, pw pj_J sk base (N - 1) d none 30 0 [(0, .ref (base + 90)), (1, va_rf (h_rf base (a1))), (2, .int (a2))] [] (n, sl, SH, FI, FL, FR) (MX2_value a1 a2 n sl SH FI FL FR)) (hMX2_chainValue : ∀ (a1 : Option Nat) (a2 : Int32) (n sl : Nat) (SH : Nat → Nat × Nat) (FI : Nat → Nat → Int32) (FL : Nat → Nat → Int64) (FR : Nat → Nat → Option Nat), pk n SH FR → ∀ d, pw pj_J sk base (N - 1) d none 32 0 [(0, .ref (base + 90)), (1, va_rf (h_rf base (a1))), (2, .int (a2))] [] (n, sl, SH, FI, FL, FR) (MX2_chainValue a1 a2 n sl SH FI FL FR)) (hK30 : ∀ (l3l : Int64) (l5o : Option Nat) (l6l : Int64) (l8i : Int32) (n sl : Nat) (SH : Nat → Nat × Nat) (FI : Nat → Nat → Int32) (FL : Nat → Nat → Int64) (FR : Nat → Nat → Option Nat), pk n SH FR → pw pj_J sk base N d none 32 30 [(0, .ref (base + 90)), (1, va_rf (h_rf base (a1))), (2, .int (a2)), (3, .long (l3l)), (5, va_rf (h_rf base (l5o))), (6, .long (l6l)), (8, .int (l8i))] [] (n, sl, SH, FI, FL, FR) (K30 l3l l5o n sl SH FI FL FR)) : pw pj_J sk base N d none 32 93 [(0, .ref (base + 90)), (1, va_rf (h_rf base (a1))), (2, .int (a2)), (3, .long (l3l)), (5, va_rf (h_rf base (l5o))), (6, .long (l6l)), (8, .int (l8i))] [] (n, sl, SH, FI, FL, FR) (RX2_chainValue_93 K30 MX2_value MX2_chainValue a1 a2 l3l l5o l6l l8i n sl SH FI FL FR) := by
  unfold RX2_chainValue_93
  refine pw_iload (aX2_chainValue 47 rfl) rfl ?_
  refine pw_lloadn (aX2_chainValue 48 rfl) rfl ?_
  refine pw_lload (aX2_chainValue 49 rfl) rfl ?_
  refine pw_cf (pw_callS (As := [.int (l8i), .long (l3l), .long (l6l)]) (rest := []) (aX2_chainValue 50 rfl) um_RX2_180 ujX9_joined wc_RX2_180.2.2.2.2 (by decide) rfl rfl (fun d => rX9_joined hkb (l8i) (l3l) (l6l) n sl SH FI FL FR hok) (fun v0 n0 sl0 SH0 FI0 FL0 FR0 _ hC => ?_))
  obtain ⟨rfl, hC⟩ := hC; cases hC
  show pw _ _ _ _ _ _ _ 101 _ [.long (fX9_joined (l8i) (l3l) (l6l) SH FI FL FR)] _ _
  exact pw_Li (L2 := [(0, .ref (base + 90)), (1, va_rf (h_rf base (a1))), (2, .int (a2)), (3, .long (l3l)), (5, va_rf (h_rf base (l5o))), (6, .long (l6l)), (8, .int (l8i))]) [0, 1, 2, 3, 4, 5, 6] (rX2_chainValue_101 hkb MX2_value MX2_chainValue a1 a2 (l5o) (fX9_joined (l8i) (l3l) (l6l) SH FI FL FR) (l3l) (l6l) (l8i) n sl SH FI FL FR hok (fun a1 a2 n sl SH FI FL FR ok d => pw_mono (hMX2_value a1 a2 n sl SH FI FL FR ok d) (by omega)) (fun a1 a2 n sl SH FI FL FR ok d => pw_mono (hMX2_chainValue a1 a2 n sl SH FI FL FR ok d) (by omega)) hK30) ⟨rfl, rfl, rfl, rfl, rfl, rfl, rfl, trivial⟩
set_option maxHeartbeats 4000000 in
set_option maxRecDepth 100000 in
theorem rX2_chainValue_77 {sk : xK} {base N d : Nat} {K30 : Int64 → Option Nat → Nat → Nat → (Nat → Nat × Nat) → (Nat → Nat → Int32) → (Nat → Nat → Int64) → (Nat → Nat → Option Nat) → Int64 → hS → Prop} (hkb : x_kb sk base) (MX2_value : Option Nat → Int32 → Nat → Nat → (Nat → Nat × Nat) → (Nat → Nat → Int32) → (Nat → Nat → Int64) → (Nat → Nat → Option Nat) → Int64 → hS → Prop) (MX2_chainValue : Option Nat → Int32 → Nat → Nat → (Nat → Nat × Nat) → (Nat → Nat → Int32) → (Nat → Nat → Int64) → (Nat → Nat → Option Nat) → Int64 → hS → Prop) (a1 : Option Nat) (a2 : Int32) (l3l : Int64) (l5o : Option Nat) (l6l : Int64) (l8i : Int32)  (n sl : Nat) (SH : Nat → Nat × Nat) (FI : Nat → Nat → Int32) (FL : Nat → Nat → Int64) (FR : Nat → Nat → Option Nat) (hok : pk n SH FR) (hMX2_value : ∀ (a1 : Option Nat) (a2 : Int32) (n sl : Nat) (SH : Nat → Nat × Nat) (FI : Nat → Nat → Int32) (FL : Nat → Nat → Int64) (FR : Nat → Nat → Option Nat), pk n SH FR → ∀ d, pw pj_J sk base (N - 1) d none 30 0 [(0, .ref (base + 90)), (1, va_rf (h_rf base (a1))), (2, .int (a2))] [] (n, sl, SH, FI, FL, FR) (MX2_value a1 a2 n sl SH FI FL FR)) (hMX2_chainValue : ∀ (a1 : Option Nat) (a2 : Int32) (n sl : Nat) (SH : Nat → Nat × Nat) (FI : Nat → Nat → Int32) (FL : Nat → Nat → Int64) (FR : Nat → Nat → Option Nat), pk n SH FR → ∀ d, pw pj_J sk base (N - 1) d none 32 0 [(0, .ref (base + 90)), (1, va_rf (h_rf base (a1))), (2, .int (a2))] [] (n, sl, SH, FI, FL, FR) (MX2_chainValue a1 a2 n sl SH FI FL FR)) (hK30 : ∀ (l3l : Int64) (l5o : Option Nat) (l6l : Int64) (l8i : Int32) (n sl : Nat) (SH : Nat → Nat × Nat) (FI : Nat → Nat → Int32) (FL : Nat → Nat → Int64) (FR : Nat → Nat → Option Nat), pk n SH FR → pw pj_J sk base N d none 32 30 [(0, .ref (base + 90)), (1, va_rf (h_rf base (a1))), (2, .int (a2)), (3, .long (l3l)), (5, va_rf (h_rf base (l5o))), (6, .long (l6l)), (8, .int (l8i))] [] (n, sl, SH, FI, FL, FR) (K30 l3l l5o n sl SH FI FL FR)) : pw pj_J sk base N d none 32 77 [(0, .ref (base + 90)), (1, va_rf (h_rf base (a1))), (2, .int (a2)), (3, .long (l3l)), (5, va_rf (h_rf base (l5o))), (6, .long (l6l)), (8, .int (l8i))] [] (n, sl, SH, FI, FL, FR) (RX2_chainValue_77 K30 MX2_value MX2_chainValue a1 a2 l3l l5o l6l l8i n sl SH FI FL FR) := by
  unfold RX2_chainValue_77
  refine pw_lload (aX2_chainValue 39 rfl) rfl ?_
  refine pw_lconst (v := (0 : Int64)) (aX2_chainValue 40 rfl) rfl ?_
  refine pw_lcne (tgt := 93) (aX2_chainValue 41 rfl) (aX2_chainValue 42 rfl) (by decide) (fun b0 => ?_) (fun b0 => ?_)
  · skip
    refine pw_aloadn (aX2_chainValue 43 rfl) rfl ?_
    refine pw_bipush (v := (6 : Int32)) (aX2_chainValue 44 rfl) rfl ?_
    refine pw_callV (Bs := [.int ((6 : Int32))]) (rest := []) (aX2_chainValue 45 rfl) um_RX2_135 ujX2_fail wc_RX2_135.2.2.2.2 (by decide) (by decide) rfl rfl (fun d => rX2_fail hkb ((6 : Int32)) n sl SH FI FL FR hok) (fun v1 n1 sl1 SH1 FI1 FL1 FR1 hok1 _ => ?_)
    show pw _ _ _ _ _ _ _ 90 _ [.long (v1)] _ _
    refine pw_goto (tgt := 101) (aX2_chainValue 46 rfl) (by decide) ?_
    exact pw_Li (L2 := [(0, .ref (base + 90)), (1, va_rf (h_rf base (a1))), (2, .int (a2)), (3, .long (l3l)), (5, va_rf (h_rf base (l5o))), (6, .long (l6l)), (8, .int (l8i))]) [0, 1, 2, 3, 4, 5, 6] (rX2_chainValue_101 hkb MX2_value MX2_chainValue a1 a2 (l5o) (v1) (l3l) (l6l) (l8i) n1 sl1 SH1 FI1 FL1 FR1 hok1 (fun a1 a2 n sl SH FI FL FR ok d => pw_mono (hMX2_value a1 a2 n sl SH FI FL FR ok d) (by omega)) (fun a1 a2 n sl SH FI FL FR ok d => pw_mono (hMX2_chainValue a1 a2 n sl SH FI FL FR ok d) (by omega)) hK30) ⟨rfl, rfl, rfl, rfl, rfl, rfl, rfl, trivial⟩
  · skip
    exact pw_Li (L2 := [(0, .ref (base + 90)), (1, va_rf (h_rf base (a1))), (2, .int (a2)), (3, .long (l3l)), (5, va_rf (h_rf base (l5o))), (6, .long (l6l)), (8, .int (l8i))]) [0, 1, 2, 3, 4, 5, 6] (rX2_chainValue_93 hkb MX2_value MX2_chainValue a1 a2 (l3l) (l5o) (l6l) (l8i) n sl SH FI FL FR hok (fun a1 a2 n sl SH FI FL FR ok d => pw_mono (hMX2_value a1 a2 n sl SH FI FL FR ok d) (by omega)) (fun a1 a2 n sl SH FI FL FR ok d => pw_mono (hMX2_chainValue a1 a2 n sl SH FI FL FR ok d) (by omega)) hK30) ⟨rfl, rfl, rfl, rfl, rfl, rfl, rfl, trivial⟩
set_option maxHeartbeats 4000000 in
set_option maxRecDepth 100000 in
theorem bX2_chainValue_30 {sk : xK} {base N d : Nat} {K30 : Int64 → Option Nat → Nat → Nat → (Nat → Nat × Nat) → (Nat → Nat → Int32) → (Nat → Nat → Int64) → (Nat → Nat → Option Nat) → Int64 → hS → Prop} (hkb : x_kb sk base) (MX2_value : Option Nat → Int32 → Nat → Nat → (Nat → Nat × Nat) → (Nat → Nat → Int32) → (Nat → Nat → Int64) → (Nat → Nat → Option Nat) → Int64 → hS → Prop) (MX2_chainValue : Option Nat → Int32 → Nat → Nat → (Nat → Nat × Nat) → (Nat → Nat → Int32) → (Nat → Nat → Int64) → (Nat → Nat → Option Nat) → Int64 → hS → Prop) (a1 : Option Nat) (a2 : Int32) (l3l : Int64) (l5o : Option Nat) (l6l : Int64) (l8i : Int32) (n sl : Nat) (SH : Nat → Nat × Nat) (FI : Nat → Nat → Int32) (FL : Nat → Nat → Int64) (FR : Nat → Nat → Option Nat) (hok : pk n SH FR) (hMX2_value : ∀ (a1 : Option Nat) (a2 : Int32) (n sl : Nat) (SH : Nat → Nat × Nat) (FI : Nat → Nat → Int32) (FL : Nat → Nat → Int64) (FR : Nat → Nat → Option Nat), pk n SH FR → ∀ d, pw pj_J sk base (N + 1 - 1) d none 30 0 [(0, .ref (base + 90)), (1, va_rf (h_rf base (a1))), (2, .int (a2))] [] (n, sl, SH, FI, FL, FR) (MX2_value a1 a2 n sl SH FI FL FR)) (hMX2_chainValue : ∀ (a1 : Option Nat) (a2 : Int32) (n sl : Nat) (SH : Nat → Nat × Nat) (FI : Nat → Nat → Int32) (FL : Nat → Nat → Int64) (FR : Nat → Nat → Option Nat), pk n SH FR → ∀ d, pw pj_J sk base (N + 1 - 1) d none 32 0 [(0, .ref (base + 90)), (1, va_rf (h_rf base (a1))), (2, .int (a2))] [] (n, sl, SH, FI, FL, FR) (MX2_chainValue a1 a2 n sl SH FI FL FR)) (hK30 : ∀ (l3l : Int64) (l5o : Option Nat) (l6l : Int64) (l8i : Int32) (n sl : Nat) (SH : Nat → Nat × Nat) (FI : Nat → Nat → Int32) (FL : Nat → Nat → Int64) (FR : Nat → Nat → Option Nat), pk n SH FR → pw pj_J sk base N d none 32 30 [(0, .ref (base + 90)), (1, va_rf (h_rf base (a1))), (2, .int (a2)), (3, .long (l3l)), (5, va_rf (h_rf base (l5o))), (6, .long (l6l)), (8, .int (l8i))] [] (n, sl, SH, FI, FL, FR) (K30 l3l l5o n sl SH FI FL FR)) : pw pj_J sk base (N + 1) d none 32 30 [(0, .ref (base + 90)), (1, va_rf (h_rf base (a1))), (2, .int (a2)), (3, .long (l3l)), (5, va_rf (h_rf base (l5o))), (6, .long (l6l)), (8, .int (l8i))] [] (n, sl, SH, FI, FL, FR) (BX2_chainValue_30 K30 MX2_value MX2_chainValue a1 a2 l3l l5o n sl SH FI FL FR) := by
  unfold BX2_chainValue_30
  refine pd_aload (aX2_chainValue 17 rfl) rfl ?_
  refine pw_inull (o := l5o) (tgt := 112) (aX2_chainValue 18 rfl) (by decide) (fun b0 => ?_) (fun b0 => ?_)
  · skip
    refine pw_lloadn (aX2_chainValue 56 rfl) rfl ?_
    exact pw_lret (aX2_chainValue 57 rfl) hok
  · skip
    refine pw_aloadn (aX2_chainValue 19 rfl) rfl ?_
    refine pw_getr (v := .int (FI 90 4)) (aX2_chainValue 20 rfl) uf_RX2_33 un_RX2_33 rfl ?_
    refine pw_ifne (tgt := 112) (aX2_chainValue 21 rfl) (by decide) (fun b1 => ?_) (fun b1 => ?_)
    · skip
      refine pw_aloadn (aX2_chainValue 22 rfl) rfl ?_
      refine pw_aload (aX2_chainValue 23 rfl) rfl ?_
      refine pw_iloadn (aX2_chainValue 24 rfl) rfl ?_
      refine pw_iconst (v := (1 : Int32)) (aX2_chainValue 25 rfl) rfl ?_
      refine pw_iadd (aX2_chainValue 26 rfl) ?_
      refine pw_callV (Bs := [va_rf (h_rf base (l5o)), .int ((a2) + ((1 : Int32)))]) (L2 := [(0, .ref (base + 90)), (1, va_rf (h_rf base (l5o))), (2, .int ((a2) + ((1 : Int32))))]) (rest := []) (aX2_chainValue 27 rfl) um_RX2_104 ujX2_value wc_RX2_104.2.2.2.2 (by decide) (by decide) rfl (by first | rfl | simp [lv_args, va_cat, va_ci, va_cl, va_cr, va_cn]) (fun d => pw_mono (hMX2_value (l5o) ((a2) + ((1 : Int32))) n sl SH FI FL FR hok d) (by omega)) (fun v2 n2 sl2 SH2 FI2 FL2 FR2 hok2 _ => ?_)
      show pw _ _ _ _ _ _ _ 51 _ [.long (v2)] _ _
      refine pw_lstore (L2 := [(6, .long (v2)), (0, .ref (base + 90)), (1, va_rf (h_rf base (a1))), (2, .int (a2)), (3, .long (l3l)), (5, va_rf (h_rf base (l5o))), (8, .int (l8i))]) (aX2_chainValue 28 rfl) (by first | rfl | (simp [x_s1, x_s2, va_cat, va_ci, va_cl, va_cr, va_cn]; done) | (simp [x_s1, x_s2, va_cat, va_ci, va_cl, va_cr, va_cn]; decide)) ?_
      refine pw_aload (aX2_chainValue 29 rfl) rfl ?_
      refine pw_get (o := l5o) (v := fun c4 => .int (FI2 c4 2)) (aX2_chainValue 30 rfl) uf_RX2_171 un_RX2_171 (fun _ => rfl) (fun c4 hc4 _ tc4 => ?_)
      refine pw_cf (pw_callS (As := [.int (FI2 c4 2)]) (rest := []) (aX2_chainValue 31 rfl) um_RX2_174 ujX4_operationOf wc_RX2_174.2.2.2.2 (by decide) rfl rfl (fun d => rX4_operationOf hkb (FI2 c4 2) n2 sl2 SH2 FI2 FL2 FR2 hok2) (fun v4 n4 sl4 SH4 FI4 FL4 FR4 _ hC => ?_))
      obtain ⟨rfl, hC⟩ := hC; cases hC
      show pw _ _ _ _ _ _ _ 61 _ [.int (fX4_operationOf (FI2 c4 2) SH2 FI2 FL2 FR2)] _ _
      refine pw_istore (L2 := [(8, .int (fX4_operationOf (FI2 c4 2) SH2 FI2 FL2 FR2)), (6, .long (v2)), (0, .ref (base + 90)), (1, va_rf (h_rf base (a1))), (2, .int (a2)), (3, .long (l3l)), (5, va_rf (h_rf base (l5o)))]) (aX2_chainValue 32 rfl) (by first | rfl | (simp [x_s1, x_s2, va_cat, va_ci, va_cl, va_cr, va_cn]; done) | (simp [x_s1, x_s2, va_cat, va_ci, va_cl, va_cr, va_cn]; decide)) ?_
      refine pw_iload (aX2_chainValue 33 rfl) rfl ?_
      refine pw_bipush (v := (27 : Int32)) (aX2_chainValue 34 rfl) rfl ?_
      refine pw_iceq (tgt := 77) (aX2_chainValue 35 rfl) (by decide) (fun b5 => ?_) (fun b5 => ?_)
      · skip
        exact pw_Li (L2 := [(0, .ref (base + 90)), (1, va_rf (h_rf base (a1))), (2, .int (a2)), (3, .long (l3l)), (5, va_rf (h_rf base (l5o))), (6, .long (v2)), (8, .int (fX4_operationOf (FI2 c4 2) SH2 FI2 FL2 FR2))]) [6, 5, 0, 1, 2, 3, 4] (rX2_chainValue_77 hkb MX2_value MX2_chainValue a1 a2 (l3l) (l5o) (v2) (fX4_operationOf (FI2 c4 2) SH2 FI2 FL2 FR2) n2 sl2 SH2 FI2 FL2 FR2 hok2 (fun a1 a2 n sl SH FI FL FR ok d => pw_mono (hMX2_value a1 a2 n sl SH FI FL FR ok d) (by omega)) (fun a1 a2 n sl SH FI FL FR ok d => pw_mono (hMX2_chainValue a1 a2 n sl SH FI FL FR ok d) (by omega)) hK30) ⟨rfl, rfl, rfl, rfl, rfl, rfl, rfl, trivial⟩
      · skip
        refine pw_iload (aX2_chainValue 36 rfl) rfl ?_
        refine pw_bipush (v := (29 : Int32)) (aX2_chainValue 37 rfl) rfl ?_
        refine pw_icne (tgt := 93) (aX2_chainValue 38 rfl) (by decide) (fun b6 => ?_) (fun b6 => ?_)
        · skip
          exact pw_Li (L2 := [(0, .ref (base + 90)), (1, va_rf (h_rf base (a1))), (2, .int (a2)), (3, .long (l3l)), (5, va_rf (h_rf base (l5o))), (6, .long (v2)), (8, .int (fX4_operationOf (FI2 c4 2) SH2 FI2 FL2 FR2))]) [6, 5, 0, 1, 2, 3, 4] (rX2_chainValue_77 hkb MX2_value MX2_chainValue a1 a2 (l3l) (l5o) (v2) (fX4_operationOf (FI2 c4 2) SH2 FI2 FL2 FR2) n2 sl2 SH2 FI2 FL2 FR2 hok2 (fun a1 a2 n sl SH FI FL FR ok d => pw_mono (hMX2_value a1 a2 n sl SH FI FL FR ok d) (by omega)) (fun a1 a2 n sl SH FI FL FR ok d => pw_mono (hMX2_chainValue a1 a2 n sl SH FI FL FR ok d) (by omega)) hK30) ⟨rfl, rfl, rfl, rfl, rfl, rfl, rfl, trivial⟩
        · skip
          exact pw_Li (L2 := [(0, .ref (base + 90)), (1, va_rf (h_rf base (a1))), (2, .int (a2)), (3, .long (l3l)), (5, va_rf (h_rf base (l5o))), (6, .long (v2)), (8, .int (fX4_operationOf (FI2 c4 2) SH2 FI2 FL2 FR2))]) [6, 5, 0, 1, 2, 3, 4] (rX2_chainValue_93 hkb MX2_value MX2_chainValue a1 a2 (l3l) (l5o) (v2) (fX4_operationOf (FI2 c4 2) SH2 FI2 FL2 FR2) n2 sl2 SH2 FI2 FL2 FR2 hok2 (fun a1 a2 n sl SH FI FL FR ok d => pw_mono (hMX2_value a1 a2 n sl SH FI FL FR ok d) (by omega)) (fun a1 a2 n sl SH FI FL FR ok d => pw_mono (hMX2_chainValue a1 a2 n sl SH FI FL FR ok d) (by omega)) hK30) ⟨rfl, rfl, rfl, rfl, rfl, rfl, rfl, trivial⟩
    · skip
      refine pw_lloadn (aX2_chainValue 56 rfl) rfl ?_
      exact pw_lret (aX2_chainValue 57 rfl) hok
theorem gX2_chainValue_30 {sk : xK} {base d : Nat}  (hkb : x_kb sk base) (MX2_value : Option Nat → Int32 → Nat → Nat → (Nat → Nat × Nat) → (Nat → Nat → Int32) → (Nat → Nat → Int64) → (Nat → Nat → Option Nat) → Int64 → hS → Prop) (MX2_chainValue : Option Nat → Int32 → Nat → Nat → (Nat → Nat × Nat) → (Nat → Nat → Int32) → (Nat → Nat → Int64) → (Nat → Nat → Option Nat) → Int64 → hS → Prop) (a1 : Option Nat) (a2 : Int32) (N : Nat) : (∀ (a1 : Option Nat) (a2 : Int32) (n sl : Nat) (SH : Nat → Nat × Nat) (FI : Nat → Nat → Int32) (FL : Nat → Nat → Int64) (FR : Nat → Nat → Option Nat), pk n SH FR → ∀ d, pw pj_J sk base (N - 1) d none 30 0 [(0, .ref (base + 90)), (1, va_rf (h_rf base (a1))), (2, .int (a2))] [] (n, sl, SH, FI, FL, FR) (MX2_value a1 a2 n sl SH FI FL FR)) → (∀ (a1 : Option Nat) (a2 : Int32) (n sl : Nat) (SH : Nat → Nat × Nat) (FI : Nat → Nat → Int32) (FL : Nat → Nat → Int64) (FR : Nat → Nat → Option Nat), pk n SH FR → ∀ d, pw pj_J sk base (N - 1) d none 32 0 [(0, .ref (base + 90)), (1, va_rf (h_rf base (a1))), (2, .int (a2))] [] (n, sl, SH, FI, FL, FR) (MX2_chainValue a1 a2 n sl SH FI FL FR)) →  ∀ (l3l : Int64) (l5o : Option Nat) (l6l : Int64) (l8i : Int32) (n sl : Nat) (SH : Nat → Nat × Nat) (FI : Nat → Nat → Int32) (FL : Nat → Nat → Int64) (FR : Nat → Nat → Option Nat), pk n SH FR → pw pj_J sk base N d none 32 30 [(0, .ref (base + 90)), (1, va_rf (h_rf base (a1))), (2, .int (a2)), (3, .long (l3l)), (5, va_rf (h_rf base (l5o))), (6, .long (l6l)), (8, .int (l8i))] [] (n, sl, SH, FI, FL, FR) (GX2_chainValue_30  MX2_value MX2_chainValue a1 a2 (N + 1) l3l l5o n sl SH FI FL FR) := by
  induction N with
  | zero => intros; exact pw_0
  | succ N ih => intro hMX2_value hMX2_chainValue  l3l l5o l6l l8i n sl SH FI FL FR hok; exact bX2_chainValue_30 hkb MX2_value MX2_chainValue a1 a2 l3l l5o l6l l8i n sl SH FI FL FR hok hMX2_value hMX2_chainValue (ih (fun a1 a2 n sl SH FI FL FR ok d => pw_mono (hMX2_value a1 a2 n sl SH FI FL FR ok d) (by omega)) (fun a1 a2 n sl SH FI FL FR ok d => pw_mono (hMX2_chainValue a1 a2 n sl SH FI FL FR ok d) (by omega)) )
theorem rX2_chainValue_30 {sk : xK} {base N d : Nat}  (hkb : x_kb sk base) (MX2_value : Option Nat → Int32 → Nat → Nat → (Nat → Nat × Nat) → (Nat → Nat → Int32) → (Nat → Nat → Int64) → (Nat → Nat → Option Nat) → Int64 → hS → Prop) (MX2_chainValue : Option Nat → Int32 → Nat → Nat → (Nat → Nat × Nat) → (Nat → Nat → Int32) → (Nat → Nat → Int64) → (Nat → Nat → Option Nat) → Int64 → hS → Prop) (a1 : Option Nat) (a2 : Int32) (l3l : Int64) (l5o : Option Nat) (l6l : Int64) (l8i : Int32) (n sl : Nat) (SH : Nat → Nat × Nat) (FI : Nat → Nat → Int32) (FL : Nat → Nat → Int64) (FR : Nat → Nat → Option Nat) (hok : pk n SH FR) (hMX2_value : ∀ (a1 : Option Nat) (a2 : Int32) (n sl : Nat) (SH : Nat → Nat × Nat) (FI : Nat → Nat → Int32) (FL : Nat → Nat → Int64) (FR : Nat → Nat → Option Nat), pk n SH FR → ∀ d, pw pj_J sk base (N - 1) d none 30 0 [(0, .ref (base + 90)), (1, va_rf (h_rf base (a1))), (2, .int (a2))] [] (n, sl, SH, FI, FL, FR) (MX2_value a1 a2 n sl SH FI FL FR)) (hMX2_chainValue : ∀ (a1 : Option Nat) (a2 : Int32) (n sl : Nat) (SH : Nat → Nat × Nat) (FI : Nat → Nat → Int32) (FL : Nat → Nat → Int64) (FR : Nat → Nat → Option Nat), pk n SH FR → ∀ d, pw pj_J sk base (N - 1) d none 32 0 [(0, .ref (base + 90)), (1, va_rf (h_rf base (a1))), (2, .int (a2))] [] (n, sl, SH, FI, FL, FR) (MX2_chainValue a1 a2 n sl SH FI FL FR))  : pw pj_J sk base N d none 32 30 [(0, .ref (base + 90)), (1, va_rf (h_rf base (a1))), (2, .int (a2)), (3, .long (l3l)), (5, va_rf (h_rf base (l5o))), (6, .long (l6l)), (8, .int (l8i))] [] (n, sl, SH, FI, FL, FR) (RX2_chainValue_30  MX2_value MX2_chainValue a1 a2 l3l l5o n sl SH FI FL FR) := pw_cons (gX2_chainValue_30 hkb MX2_value MX2_chainValue a1 a2 N hMX2_value hMX2_chainValue  l3l l5o l6l l8i n sl SH FI FL FR hok) (fun _ _ h => ⟨_, h⟩)
set_option maxHeartbeats 4000000 in
set_option maxRecDepth 100000 in
theorem rX2_chainValue {sk : xK} {base N d : Nat} (hkb : x_kb sk base) (MX2_value : Option Nat → Int32 → Nat → Nat → (Nat → Nat × Nat) → (Nat → Nat → Int32) → (Nat → Nat → Int64) → (Nat → Nat → Option Nat) → Int64 → hS → Prop) (MX2_chainValue : Option Nat → Int32 → Nat → Nat → (Nat → Nat × Nat) → (Nat → Nat → Int32) → (Nat → Nat → Int64) → (Nat → Nat → Option Nat) → Int64 → hS → Prop) (a1 : Option Nat) (a2 : Int32) (n sl : Nat) (SH : Nat → Nat × Nat) (FI : Nat → Nat → Int32) (FL : Nat → Nat → Int64) (FR : Nat → Nat → Option Nat) (hok : pk n SH FR) (hMX2_value : ∀ (a1 : Option Nat) (a2 : Int32) (n sl : Nat) (SH : Nat → Nat × Nat) (FI : Nat → Nat → Int32) (FL : Nat → Nat → Int64) (FR : Nat → Nat → Option Nat), pk n SH FR → ∀ d, pw pj_J sk base (N - 1) d none 30 0 [(0, .ref (base + 90)), (1, va_rf (h_rf base (a1))), (2, .int (a2))] [] (n, sl, SH, FI, FL, FR) (MX2_value a1 a2 n sl SH FI FL FR)) (hMX2_chainValue : ∀ (a1 : Option Nat) (a2 : Int32) (n sl : Nat) (SH : Nat → Nat × Nat) (FI : Nat → Nat → Int32) (FL : Nat → Nat → Int64) (FR : Nat → Nat → Option Nat), pk n SH FR → ∀ d, pw pj_J sk base (N - 1) d none 32 0 [(0, .ref (base + 90)), (1, va_rf (h_rf base (a1))), (2, .int (a2))] [] (n, sl, SH, FI, FL, FR) (MX2_chainValue a1 a2 n sl SH FI FL FR)) : pw pj_J sk base N d none 32 0 [(0, .ref (base + 90)), (1, va_rf (h_rf base (a1))), (2, .int (a2))] [] (n, sl, SH, FI, FL, FR) (RX2_chainValue MX2_value MX2_chainValue a1 a2 n sl SH FI FL FR) := by
  unfold RX2_chainValue
  refine pw_aloadn (aX2_chainValue 0 rfl) rfl ?_
  refine pw_get (o := a1) (v := fun c1 => va_rf (h_rf base (FR c1 3))) (aX2_chainValue 1 rfl) uf_RX2_153 un_RX2_153 (fun _ => rfl) (fun c1 hc1 _ tc1 => ?_)
  refine pw_innull (o := FR c1 3) (tgt := 9) (aX2_chainValue 2 rfl) (by decide) (fun b1 => ?_) (fun b1 => ?_)
  · skip
    refine pw_lconst (v := (0 : Int64)) (aX2_chainValue 3 rfl) rfl ?_
    exact pw_lret (aX2_chainValue 4 rfl) hok
  · skip
    refine pw_aloadn (aX2_chainValue 5 rfl) rfl ?_
    refine pw_aloadn (aX2_chainValue 6 rfl) rfl ?_
    refine pw_get (o := a1) (v := fun c3 => va_rf (h_rf base (FR c3 3))) (aX2_chainValue 7 rfl) uf_RX2_153 un_RX2_153 (fun _ => rfl) (fun c3 hc3 _ tc3 => ?_)
    refine pw_iloadn (aX2_chainValue 8 rfl) rfl ?_
    refine pw_iconst (v := (1 : Int32)) (aX2_chainValue 9 rfl) rfl ?_
    refine pw_iadd (aX2_chainValue 10 rfl) ?_
    refine pw_callV (Bs := [va_rf (h_rf base (FR c3 3)), .int ((a2) + ((1 : Int32)))]) (L2 := [(0, .ref (base + 90)), (1, va_rf (h_rf base (FR c3 3))), (2, .int ((a2) + ((1 : Int32))))]) (rest := []) (aX2_chainValue 11 rfl) um_RX2_104 ujX2_value wc_RX2_104.2.2.2.2 (by decide) (by decide) rfl (by first | rfl | simp [lv_args, va_cat, va_ci, va_cl, va_cr, va_cn]) (fun d => pw_mono (hMX2_value (FR c3 3) ((a2) + ((1 : Int32))) n sl SH FI FL FR hok d) (by omega)) (fun v3 n3 sl3 SH3 FI3 FL3 FR3 hok3 _ => ?_)
    show pw _ _ _ _ _ _ _ 20 _ [.long (v3)] _ _
    refine pw_lstoren (L2 := [(3, .long (v3)), (0, .ref (base + 90)), (1, va_rf (h_rf base (a1))), (2, .int (a2))]) (aX2_chainValue 12 rfl) (by first | rfl | (simp [x_s1, x_s2, va_cat, va_ci, va_cl, va_cr, va_cn]; done) | (simp [x_s1, x_s2, va_cat, va_ci, va_cl, va_cr, va_cn]; decide)) ?_
    refine pw_aloadn (aX2_chainValue 13 rfl) rfl ?_
    refine pw_get (o := a1) (v := fun c5 => va_rf (h_rf base (FR3 c5 3))) (aX2_chainValue 14 rfl) uf_RX2_153 un_RX2_153 (fun _ => rfl) (fun c5 hc5 _ tc5 => ?_)
    refine pw_get (o := FR3 c5 3) (v := fun c6 => va_rf (h_rf base (FR3 c6 6))) (aX2_chainValue 15 rfl) uf_RX2_169 un_RX2_169 (fun _ => rfl) (fun c6 hc6 _ tc6 => ?_)
    refine pw_astore (L2 := [(5, va_rf (h_rf base (FR3 c6 6))), (3, .long (v3)), (0, .ref (base + 90)), (1, va_rf (h_rf base (a1))), (2, .int (a2))]) (aX2_chainValue 16 rfl) (by first | rfl | (simp [x_s1, x_s2, va_cat, va_ci, va_cl, va_cr, va_cn]; done) | (simp [x_s1, x_s2, va_cat, va_ci, va_cl, va_cr, va_cn]; decide)) ?_
    exact pw_Li (L2 := [(0, .ref (base + 90)), (1, va_rf (h_rf base (a1))), (2, .int (a2)), (3, .long (v3)), (5, va_rf (h_rf base (FR3 c6 6))), (6, .long 0), (8, .int 0)]) [4, 3, 0, 1, 2] (rX2_chainValue_30 hkb MX2_value MX2_chainValue a1 a2 (v3) (FR3 c6 6) 0 0 n3 sl3 SH3 FI3 FL3 FR3 hok3 (fun a1 a2 n sl SH FI FL FR ok d => pw_mono (hMX2_value a1 a2 n sl SH FI FL FR ok d) (by omega)) (fun a1 a2 n sl SH FI FL FR ok d => pw_mono (hMX2_chainValue a1 a2 n sl SH FI FL FR ok d) (by omega)) ) ⟨rfl, rfl, rfl, rfl, rfl, trivial⟩
theorem qX2 {sk : xK} {base : Nat} (hkb : x_kb sk base) (N : Nat) : (∀ (a1 : Option Nat) (a2 : Int32) (n sl : Nat) (SH : Nat → Nat × Nat) (FI : Nat → Nat → Int32) (FL : Nat → Nat → Int64) (FR : Nat → Nat → Option Nat), pk n SH FR → ∀ d, pw pj_J sk base N d none 30 0 [(0, .ref (base + 90)), (1, va_rf (h_rf base (a1))), (2, .int (a2))] [] (n, sl, SH, FI, FL, FR) (QX2 (N + 1) 0 a1 a2 n sl SH FI FL FR)) ∧ (∀ (a1 : Option Nat) (a2 : Int32) (n sl : Nat) (SH : Nat → Nat × Nat) (FI : Nat → Nat → Int32) (FL : Nat → Nat → Int64) (FR : Nat → Nat → Option Nat), pk n SH FR → ∀ d, pw pj_J sk base N d none 32 0 [(0, .ref (base + 90)), (1, va_rf (h_rf base (a1))), (2, .int (a2))] [] (n, sl, SH, FI, FL, FR) (QX2 (N + 1) 1 a1 a2 n sl SH FI FL FR)) := by
  induction N with
  | zero => exact ⟨by intros; exact pw_0, by intros; exact pw_0⟩
  | succ N ih => exact ⟨fun a1 a2 n sl SH FI FL FR hok d => rX2_value (N := N + 1) hkb _ _ a1 a2 n sl SH FI FL FR hok ih.1 ih.2, fun a1 a2 n sl SH FI FL FR hok d => rX2_chainValue (N := N + 1) hkb _ _ a1 a2 n sl SH FI FL FR hok ih.1 ih.2⟩
theorem rX2_value_ {sk : xK} {base N d : Nat} (hkb : x_kb sk base) (a1 : Option Nat) (a2 : Int32) (n sl : Nat) (SH : Nat → Nat × Nat) (FI : Nat → Nat → Int32) (FL : Nat → Nat → Int64) (FR : Nat → Nat → Option Nat) (hok : pk n SH FR) : pw pj_J sk base N d none 30 0 [(0, .ref (base + 90)), (1, va_rf (h_rf base (a1))), (2, .int (a2))] [] (n, sl, SH, FI, FL, FR) (RX2_value_ a1 a2 n sl SH FI FL FR) := pw_cons ((qX2 hkb N).1 a1 a2 n sl SH FI FL FR hok d) (fun _ _ h => ⟨_, h⟩)
theorem rX2_chainValue_ {sk : xK} {base N d : Nat} (hkb : x_kb sk base) (a1 : Option Nat) (a2 : Int32) (n sl : Nat) (SH : Nat → Nat × Nat) (FI : Nat → Nat → Int32) (FL : Nat → Nat → Int64) (FR : Nat → Nat → Option Nat) (hok : pk n SH FR) : pw pj_J sk base N d none 32 0 [(0, .ref (base + 90)), (1, va_rf (h_rf base (a1))), (2, .int (a2))] [] (n, sl, SH, FI, FL, FR) (RX2_chainValue_ a1 a2 n sl SH FI FL FR) := pw_cons ((qX2 hkb N).2 a1 a2 n sl SH FI FL FR hok d) (fun _ _ h => ⟨_, h⟩)
set_option maxHeartbeats 4000000 in
set_option maxRecDepth 100000 in
theorem rX2_meet {sk : xK} {base N d : Nat} (hkb : x_kb sk base) (a1 : Option Nat) (n sl : Nat) (SH : Nat → Nat × Nat) (FI : Nat → Nat → Int32) (FL : Nat → Nat → Int64) (FR : Nat → Nat → Option Nat) (hok : pk n SH FR)  : pw pj_V sk base N d none 29 0 [(0, .ref (base + 90)), (1, va_rf (h_rf base (a1)))] [] (n, sl, SH, FI, FL, FR) (RX2_meet a1 n sl SH FI FL FR) := by
  unfold RX2_meet
  refine pw_aloadn (aX2_meet 0 rfl) rfl ?_
  refine pw_get (o := a1) (v := fun c1 => .int (FI c1 0)) (aX2_meet 1 rfl) uf_RX2_89 un_RX2_89 (fun _ => rfl) (fun c1 hc1 _ tc1 => ?_)
  refine pw_tsw aX2_meet_4 (fun tg ht => ?_)
  refine pw_case ((FI c1 0).toInt = 1 ∨ (FI c1 0).toInt = 3) (fun b2 => ?_) (fun b2 => ?_)
  · have et : tg = 51 := by
      rcases b2 with h9 | h9
      · rcases ht with ⟨h8, -⟩ | ⟨-, -, off, ho, ht⟩; { exact absurd h8 (by omega) }; { rw [h9] at ho; have e9 : off = (47 : Int) := (Option.some.inj (show some (47 : Int) = some off from ho)).symm; omega }
      · rcases ht with ⟨h8, -⟩ | ⟨-, -, off, ho, ht⟩; { exact absurd h8 (by omega) }; { rw [h9] at ho; have e9 : off = (47 : Int) := (Option.some.inj (show some (47 : Int) = some off from ho)).symm; omega }
    subst et
    refine pw_aloadn (aX2_meet 9 rfl) rfl ?_
    refine pw_getr (v := .ref (base + 109)) (aX2_meet 10 rfl) uf_RX2_21 un_RX2_21 (congrArg (fun r => va_rf (h_rf base r)) (q90_3 (hok).2.1)) ?_
    refine pw_aloadn (aX2_meet 11 rfl) rfl ?_
    refine pw_get (o := a1) (v := fun c3 => .int (FI c3 0)) (aX2_meet 12 rfl) uf_RX2_89 un_RX2_89 (fun _ => rfl) (fun c3 hc3 _ tc3 => ?_)
    refine pw_aloadn (aX2_meet 13 rfl) rfl ?_
    refine pw_aloadn (aX2_meet 14 rfl) rfl ?_
    refine pw_get (o := a1) (v := fun c4 => va_rf (h_rf base (FR c4 2))) (aX2_meet 15 rfl) uf_RX2_100 un_RX2_100 (fun _ => rfl) (fun c4 hc4 _ tc4 => ?_)
    refine pw_iconst (v := (0 : Int32)) (aX2_meet 16 rfl) rfl ?_
    refine pw_callV (Bs := [va_rf (h_rf base (FR c4 2)), .int ((0 : Int32))]) (L2 := [(0, .ref (base + 90)), (1, va_rf (h_rf base (FR c4 2))), (2, .int ((0 : Int32)))]) (rest := [.int (FI c3 0), .ref (base + 109)]) (aX2_meet 17 rfl) um_RX2_104 ujX2_value wc_RX2_104.2.2.2.2 (by decide) (by decide) rfl (by first | rfl | simp [lv_args, va_cat, va_ci, va_cl, va_cr, va_cn]) (fun d => rX2_value_ hkb (FR c4 2) ((0 : Int32)) n sl SH FI FL FR hok) (fun v4 n4 sl4 SH4 FI4 FL4 FR4 hok4 _ => ?_)
    show pw _ _ _ _ _ _ _ 68 _ [.long (v4), .int (FI c3 0), .ref (base + 109)] _ _
    refine pw_callV (Bs := [.int (FI c3 0), .long (v4)]) (rest := []) (aX2_meet 18 rfl) um_RX2_96 ujX5_become wc_RX2_96.2.2.2.2 (by decide) (by decide) rfl rfl (fun d => rX5_become hkb 109 (FI c3 0) (v4) n4 sl4 SH4 FI4 FL4 FR4 hok4) (fun v5 n5 sl5 SH5 FI5 FL5 FR5 hok5 _ => ?_)
    show pw _ _ _ _ _ _ _ 71 _ [] _ _
    refine pw_goto (tgt := 114) (aX2_meet 19 rfl) (by decide) ?_
    exact pw_vret (aX2_meet 40 rfl) hok5
  skip
  refine pw_case ((FI c1 0).toInt = 2) (fun b7 => ?_) (fun b7 => ?_)
  · have et : tg = 36 := by
      rcases ht with ⟨h8, -⟩ | ⟨-, -, off, ho, ht⟩; { exact absurd h8 (by omega) }; { rw [b7] at ho; have e9 : off = (32 : Int) := (Option.some.inj (show some (32 : Int) = some off from ho)).symm; omega }
    subst et
    refine pw_aloadn (aX2_meet 2 rfl) rfl ?_
    refine pw_getr (v := .ref (base + 109)) (aX2_meet 3 rfl) uf_RX2_21 un_RX2_21 (congrArg (fun r => va_rf (h_rf base r)) (q90_3 (hok).2.1)) ?_
    refine pw_iconst (v := (2 : Int32)) (aX2_meet 4 rfl) rfl ?_
    refine pw_aloadn (aX2_meet 5 rfl) rfl ?_
    refine pw_get (o := a1) (v := fun c8 => .long (FL c8 1)) (aX2_meet 6 rfl) uf_RX2_92 un_RX2_92 (fun _ => rfl) (fun c8 hc8 _ tc8 => ?_)
    refine pw_callV (Bs := [.int ((2 : Int32)), .long (FL c8 1)]) (rest := []) (aX2_meet 7 rfl) um_RX2_96 ujX5_become wc_RX2_96.2.2.2.2 (by decide) (by decide) rfl rfl (fun d => rX5_become hkb 109 ((2 : Int32)) (FL c8 1) n sl SH FI FL FR hok) (fun v8 n8 sl8 SH8 FI8 FL8 FR8 hok8 _ => ?_)
    show pw _ _ _ _ _ _ _ 48 _ [] _ _
    refine pw_goto (tgt := 114) (aX2_meet 8 rfl) (by decide) ?_
    exact pw_vret (aX2_meet 40 rfl) hok8
  skip
  refine pw_case ((FI c1 0).toInt = 4) (fun b10 => ?_) (fun b10 => ?_)
  · have et : tg = 74 := by
      rcases ht with ⟨h8, -⟩ | ⟨-, -, off, ho, ht⟩; { exact absurd h8 (by omega) }; { rw [b10] at ho; have e9 : off = (70 : Int) := (Option.some.inj (show some (70 : Int) = some off from ho)).symm; omega }
    subst et
    refine pw_aloadn (aX2_meet 20 rfl) rfl ?_
    refine pw_getr (v := .ref (base + 109)) (aX2_meet 21 rfl) uf_RX2_21 un_RX2_21 (congrArg (fun r => va_rf (h_rf base r)) (q90_3 (hok).2.1)) ?_
    refine pw_aloadn (aX2_meet 22 rfl) rfl ?_
    refine pw_get (o := a1) (v := fun c11 => va_rf (h_rf base (FR c11 3))) (aX2_meet 23 rfl) uf_RX2_108 un_RX2_108 (fun _ => rfl) (fun c11 hc11 _ tc11 => ?_)
    refine pw_iconst (v := (0 : Int32)) (aX2_meet 24 rfl) rfl ?_
    refine pw_aloadn (aX2_meet 25 rfl) rfl ?_
    refine pw_get (o := a1) (v := fun c12 => va_rf (h_rf base (FR c12 3))) (aX2_meet 26 rfl) uf_RX2_108 un_RX2_108 (fun _ => rfl) (fun c12 hc12 _ tc12 => ?_)
    refine pw_innull (o := FR c12 3) (tgt := 94) (aX2_meet 27 rfl) (by decide) (fun b12 => ?_) (fun b12 => ?_)
    · skip
      refine pw_iconst (v := (0 : Int32)) (aX2_meet 28 rfl) rfl ?_
      refine pw_goto (tgt := 99) (aX2_meet 29 rfl) (by decide) ?_
      refine pw_callV (Bs := [va_rf (h_rf base (FR c11 3)), .int ((0 : Int32)), .int ((0 : Int32))]) (L2 := [(0, .ref (base + 109)), (1, va_rf (h_rf base (FR c11 3))), (2, .int ((0 : Int32))), (3, .int ((0 : Int32)))]) (rest := []) (aX2_meet 33 rfl) um_RX2_112 ujX5_becomeBlock wc_RX2_112.2.2.2.2 (by decide) (by decide) rfl (by first | rfl | simp [lv_args, va_cat, va_ci, va_cl, va_cr, va_cn]) (fun d => rX5_becomeBlock hkb 109 (FR c11 3) ((0 : Int32)) ((0 : Int32)) n sl SH FI FL FR hok) (fun v13 n13 sl13 SH13 FI13 FL13 FR13 hok13 _ => ?_)
      show pw _ _ _ _ _ _ _ 102 _ [] _ _
      refine pw_goto (tgt := 114) (aX2_meet 34 rfl) (by decide) ?_
      exact pw_vret (aX2_meet 40 rfl) hok13
    · skip
      refine pw_aloadn (aX2_meet 30 rfl) rfl ?_
      refine pw_get (o := a1) (v := fun c15 => va_rf (h_rf base (FR c15 3))) (aX2_meet 31 rfl) uf_RX2_108 un_RX2_108 (fun _ => rfl) (fun c15 hc15 _ tc15 => ?_)
      refine pw_alen hkb (o := FR c15 3) (aX2_meet 32 rfl) (fun c16 hc16 _ => ?_)
      refine pw_callV (Bs := [va_rf (h_rf base (FR c11 3)), .int ((0 : Int32)), .int (Int32.ofNat (SH c16).2)]) (L2 := [(0, .ref (base + 109)), (1, va_rf (h_rf base (FR c11 3))), (2, .int ((0 : Int32))), (3, .int (Int32.ofNat (SH c16).2))]) (rest := []) (aX2_meet 33 rfl) um_RX2_112 ujX5_becomeBlock wc_RX2_112.2.2.2.2 (by decide) (by decide) rfl (by first | rfl | simp [lv_args, va_cat, va_ci, va_cl, va_cr, va_cn]) (fun d => rX5_becomeBlock hkb 109 (FR c11 3) ((0 : Int32)) (Int32.ofNat (SH c16).2) n sl SH FI FL FR hok) (fun v16 n16 sl16 SH16 FI16 FL16 FR16 hok16 _ => ?_)
      show pw _ _ _ _ _ _ _ 102 _ [] _ _
      refine pw_goto (tgt := 114) (aX2_meet 34 rfl) (by decide) ?_
      exact pw_vret (aX2_meet 40 rfl) hok16
  skip
  have et : tg = 105 := by
    rcases ht with ⟨-, h8⟩ | ⟨h1, h2, -⟩; { omega }; { exfalso; omega }
  subst et
  refine pw_aloadn (aX2_meet 35 rfl) rfl ?_
  refine pw_getr (v := .ref (base + 109)) (aX2_meet 36 rfl) uf_RX2_21 un_RX2_21 (congrArg (fun r => va_rf (h_rf base r)) (q90_3 (hok).2.1)) ?_
  refine pw_iconst (v := (0 : Int32)) (aX2_meet 37 rfl) rfl ?_
  refine pw_lconst (v := (0 : Int64)) (aX2_meet 38 rfl) rfl ?_
  refine pw_callV (Bs := [.int ((0 : Int32)), .long ((0 : Int64))]) (rest := []) (aX2_meet 39 rfl) um_RX2_96 ujX5_become wc_RX2_96.2.2.2.2 (by decide) (by decide) rfl rfl (fun d => rX5_become hkb 109 ((0 : Int32)) ((0 : Int64)) n sl SH FI FL FR hok) (fun v17 n17 sl17 SH17 FI17 FL17 FR17 hok17 _ => ?_)
  show pw _ _ _ _ _ _ _ 114 _ [] _ _
  exact pw_vret (aX2_meet 40 rfl) hok17
set_option maxHeartbeats 4000000 in
set_option maxRecDepth 100000 in
theorem rX2_placeFor_63 {sk : xK} {base N d : Nat} {K16 : Int32 → Nat → Nat → (Nat → Nat × Nat) → (Nat → Nat → Int32) → (Nat → Nat → Int64) → (Nat → Nat → Option Nat) → Option Nat → hS → Prop} (hkb : x_kb sk base) (a1 : Option Nat) (a2 : Int64) (l3i : Int32)  (n sl : Nat) (SH : Nat → Nat × Nat) (FI : Nat → Nat → Int32) (FL : Nat → Nat → Int64) (FR : Nat → Nat → Option Nat) (hok : pk n SH FR)  (hK16 : ∀ (l3i : Int32) (n sl : Nat) (SH : Nat → Nat × Nat) (FI : Nat → Nat → Int32) (FL : Nat → Nat → Int64) (FR : Nat → Nat → Option Nat), pk n SH FR → pw (pj_A base) sk base N d none 28 16 [(0, va_rf (h_rf base (a1))), (1, .long (a2)), (3, .int (l3i))] [] (n, sl, SH, FI, FL, FR) (K16 l3i n sl SH FI FL FR)) : pw (pj_A base) sk base N d none 28 63 [(0, va_rf (h_rf base (a1))), (1, .long (a2)), (3, .int (l3i))] [] (n, sl, SH, FI, FL, FR) (RX2_placeFor_63 K16 a1 a2 l3i n sl SH FI FL FR) := by
  unfold RX2_placeFor_63
  refine pw_iinc (v := (l3i) + (1 : Int32)) (L2 := [(3, .int ((l3i) + (1 : Int32))), (0, va_rf (h_rf base (a1))), (1, .long (a2))]) (aX2_placeFor 36 rfl) rfl rfl (by first | rfl | (simp [x_s1, x_s2, va_cat, va_ci, va_cl, va_cr, va_cn]; done) | (simp [x_s1, x_s2, va_cat, va_ci, va_cl, va_cr, va_cn]; decide)) ?_
  refine pw_goto (tgt := 16) (aX2_placeFor 37 rfl) (by decide) ?_
  exact pw_Li (L2 := [(0, va_rf (h_rf base (a1))), (1, .long (a2)), (3, .int ((l3i) + (1 : Int32)))]) [2, 0, 1] (hK16 ((l3i) + (1 : Int32)) n sl SH FI FL FR hok) ⟨rfl, rfl, rfl, trivial⟩
set_option maxHeartbeats 4000000 in
set_option maxRecDepth 100000 in
theorem bX2_placeFor_16 {sk : xK} {base N d : Nat} {K16 : Int32 → Nat → Nat → (Nat → Nat × Nat) → (Nat → Nat → Int32) → (Nat → Nat → Int64) → (Nat → Nat → Option Nat) → Option Nat → hS → Prop} (hkb : x_kb sk base) (a1 : Option Nat) (a2 : Int64) (l3i : Int32)  (n sl : Nat) (SH : Nat → Nat × Nat) (FI : Nat → Nat → Int32) (FL : Nat → Nat → Int64) (FR : Nat → Nat → Option Nat) (hok : pk n SH FR)  (hK16 : ∀ (l3i : Int32) (n sl : Nat) (SH : Nat → Nat × Nat) (FI : Nat → Nat → Int32) (FL : Nat → Nat → Int64) (FR : Nat → Nat → Option Nat), pk n SH FR → pw (pj_A base) sk base N d none 28 16 [(0, va_rf (h_rf base (a1))), (1, .long (a2)), (3, .int (l3i))] [] (n, sl, SH, FI, FL, FR) (K16 l3i n sl SH FI FL FR)) : pw (pj_A base) sk base (N + 1) d none 28 16 [(0, va_rf (h_rf base (a1))), (1, .long (a2)), (3, .int (l3i))] [] (n, sl, SH, FI, FL, FR) (BX2_placeFor_16 K16 a1 a2 l3i n sl SH FI FL FR) := by
  unfold BX2_placeFor_16
  refine pd_iloadn (aX2_placeFor 10 rfl) rfl ?_
  refine pw_aloadn (aX2_placeFor 11 rfl) rfl ?_
  refine pw_get (o := a1) (v := fun c1 => .int (FI c1 5)) (aX2_placeFor 12 rfl) uf_RX2_69 un_RX2_69 (fun _ => rfl) (fun c1 hc1 _ tc1 => ?_)
  refine pw_icge (tgt := 69) (aX2_placeFor 13 rfl) (by decide) (fun b1 => ?_) (fun b1 => ?_)
  · skip
    refine pw_iloadn (aX2_placeFor 14 rfl) rfl ?_
    refine pw_bipush (v := (8 : Int32)) (aX2_placeFor 15 rfl) rfl ?_
    refine pw_icge (tgt := 69) (aX2_placeFor 16 rfl) (by decide) (fun b2 => ?_) (fun b2 => ?_)
    · skip
      refine pw_lloadn (aX2_placeFor 17 rfl) rfl ?_
      refine pw_aloadn (aX2_placeFor 18 rfl) rfl ?_
      refine pw_get (o := a1) (v := fun c4 => va_rf (h_rf base (FR c4 2))) (aX2_placeFor 19 rfl) uf_RX2_78 un_RX2_78 (fun _ => rfl) (fun c4 hc4 _ tc4 => ?_)
      refine pw_iloadn (aX2_placeFor 20 rfl) rfl ?_
      refine pw_lald (ix := (l3i).toInt.toNat) (o := FR c4 2) (aX2_placeFor 21 rfl) rfl (fun c5 hc5 _ gc5 => ?_)
      refine pw_cf (pw_callS (As := [.long (a2), .long (FL c5 (l3i).toInt.toNat)]) (rest := []) (aX2_placeFor 22 rfl) um_RX2_82 ujX11_isBelow wc_RX2_82.2.2.2.2 (by decide) rfl rfl (fun d => rX11_isBelow hkb (a2) (FL c5 (l3i).toInt.toNat) n sl SH FI FL FR hok) (fun v5 n5 sl5 SH5 FI5 FL5 FR5 _ hC => ?_))
      obtain ⟨e9, hC⟩ := hC; have e9 := e9.symm; subst e9; cases hC
      show pw _ _ _ _ _ _ _ 40 _ [.int (fX11_isBelow (a2) (FL c5 (l3i).toInt.toNat) SH FI FL FR)] _ _
      refine pw_ifne (tgt := 63) (aX2_placeFor 23 rfl) (by decide) (fun b6 => ?_) (fun b6 => ?_)
      · skip
        refine pw_lloadn (aX2_placeFor 24 rfl) rfl ?_
        refine pw_aloadn (aX2_placeFor 25 rfl) rfl ?_
        refine pw_get (o := a1) (v := fun c8 => va_rf (h_rf base (FR c8 3))) (aX2_placeFor 26 rfl) uf_RX2_86 un_RX2_86 (fun _ => rfl) (fun c8 hc8 _ tc8 => ?_)
        refine pw_iloadn (aX2_placeFor 27 rfl) rfl ?_
        refine pw_lald (ix := (l3i).toInt.toNat) (o := FR c8 3) (aX2_placeFor 28 rfl) rfl (fun c9 hc9 _ gc9 => ?_)
        refine pw_cf (pw_callS (As := [.long (a2), .long (FL c9 (l3i).toInt.toNat)]) (rest := []) (aX2_placeFor 29 rfl) um_RX2_82 ujX11_isBelow wc_RX2_82.2.2.2.2 (by decide) rfl rfl (fun d => rX11_isBelow hkb (a2) (FL c9 (l3i).toInt.toNat) n sl SH FI FL FR hok) (fun v9 n9 sl9 SH9 FI9 FL9 FR9 _ hC => ?_))
        obtain ⟨e9, hC⟩ := hC; have e9 := e9.symm; subst e9; cases hC
        show pw _ _ _ _ _ _ _ 53 _ [.int (fX11_isBelow (a2) (FL c9 (l3i).toInt.toNat) SH FI FL FR)] _ _
        refine pw_ifeq (tgt := 63) (aX2_placeFor 30 rfl) (by decide) (fun b10 => ?_) (fun b10 => ?_)
        · skip
          exact pw_Li (L2 := [(0, va_rf (h_rf base (a1))), (1, .long (a2)), (3, .int (l3i))]) [0, 1, 2] (rX2_placeFor_63 hkb a1 a2 (l3i) n sl SH FI FL FR hok  hK16) ⟨rfl, rfl, rfl, trivial⟩
        · skip
          refine pw_aloadn (aX2_placeFor 31 rfl) rfl ?_
          refine pw_get (o := a1) (v := fun c12 => va_rf (h_rf base (FR c12 4))) (aX2_placeFor 32 rfl) uf_RX2_74 un_RX2_74 (fun _ => rfl) (fun c12 hc12 _ tc12 => ?_)
          refine pw_iloadn (aX2_placeFor 33 rfl) rfl ?_
          refine pw_aald (ix := (l3i).toInt.toNat) (o := FR c12 4) (aX2_placeFor 34 rfl) rfl (fun c13 hc13 _ gc13 => ?_)
          exact pw_aret (o := FR c13 (l3i).toInt.toNat) (aX2_placeFor 35 rfl) hok
      · skip
        exact pw_Li (L2 := [(0, va_rf (h_rf base (a1))), (1, .long (a2)), (3, .int (l3i))]) [0, 1, 2] (rX2_placeFor_63 hkb a1 a2 (l3i) n sl SH FI FL FR hok  hK16) ⟨rfl, rfl, rfl, trivial⟩
    · skip
      refine pw_null (aX2_placeFor 38 rfl) ?_
      exact pw_aret (o := none) (aX2_placeFor 39 rfl) hok
  · skip
    refine pw_null (aX2_placeFor 38 rfl) ?_
    exact pw_aret (o := none) (aX2_placeFor 39 rfl) hok
theorem gX2_placeFor_16 {sk : xK} {base d : Nat}  (hkb : x_kb sk base) (a1 : Option Nat) (a2 : Int64) (N : Nat) :  ∀ (l3i : Int32)  (n sl : Nat) (SH : Nat → Nat × Nat) (FI : Nat → Nat → Int32) (FL : Nat → Nat → Int64) (FR : Nat → Nat → Option Nat), pk n SH FR → pw (pj_A base) sk base N d none 28 16 [(0, va_rf (h_rf base (a1))), (1, .long (a2)), (3, .int (l3i))] [] (n, sl, SH, FI, FL, FR) (GX2_placeFor_16  a1 a2 (N + 1) l3i n sl SH FI FL FR) := by
  induction N with
  | zero => intros; exact pw_0
  | succ N ih => intro   l3i  n sl SH FI FL FR hok; exact bX2_placeFor_16 hkb a1 a2 l3i  n sl SH FI FL FR hok  (ih  )
theorem rX2_placeFor_16 {sk : xK} {base N d : Nat}  (hkb : x_kb sk base) (a1 : Option Nat) (a2 : Int64) (l3i : Int32)  (n sl : Nat) (SH : Nat → Nat × Nat) (FI : Nat → Nat → Int32) (FL : Nat → Nat → Int64) (FR : Nat → Nat → Option Nat) (hok : pk n SH FR)   : pw (pj_A base) sk base N d none 28 16 [(0, va_rf (h_rf base (a1))), (1, .long (a2)), (3, .int (l3i))] [] (n, sl, SH, FI, FL, FR) (RX2_placeFor_16  a1 a2 l3i n sl SH FI FL FR) := pw_cons (gX2_placeFor_16 hkb a1 a2 N   l3i  n sl SH FI FL FR hok) (fun _ _ h => ⟨_, h⟩)
set_option maxHeartbeats 4000000 in
set_option maxRecDepth 100000 in
theorem rX2_placeFor {sk : xK} {base N d : Nat} (hkb : x_kb sk base) (a1 : Option Nat) (a2 : Int64) (n sl : Nat) (SH : Nat → Nat × Nat) (FI : Nat → Nat → Int32) (FL : Nat → Nat → Int64) (FR : Nat → Nat → Option Nat) (hok : pk n SH FR)  : pw (pj_A base) sk base N d none 28 0 [(0, va_rf (h_rf base (a1))), (1, .long (a2))] [] (n, sl, SH, FI, FL, FR) (RX2_placeFor a1 a2 n sl SH FI FL FR) := by
  unfold RX2_placeFor
  refine pw_aloadn (aX2_placeFor 0 rfl) rfl ?_
  refine pw_get (o := a1) (v := fun c1 => .int (FI c1 5)) (aX2_placeFor 1 rfl) uf_RX2_69 un_RX2_69 (fun _ => rfl) (fun c1 hc1 _ tc1 => ?_)
  refine pw_ifne (tgt := 14) (aX2_placeFor 2 rfl) (by decide) (fun b1 => ?_) (fun b1 => ?_)
  · skip
    refine pw_aloadn (aX2_placeFor 3 rfl) rfl ?_
    refine pw_get (o := a1) (v := fun c3 => va_rf (h_rf base (FR c3 4))) (aX2_placeFor 4 rfl) uf_RX2_74 un_RX2_74 (fun _ => rfl) (fun c3 hc3 _ tc3 => ?_)
    refine pw_iconst (v := (0 : Int32)) (aX2_placeFor 5 rfl) rfl ?_
    refine pw_aald (ix := 0) (o := FR c3 4) (aX2_placeFor 6 rfl) rfl (fun c4 hc4 _ gc4 => ?_)
    exact pw_aret (o := FR c4 0) (aX2_placeFor 7 rfl) hok
  · skip
    refine pw_iconst (v := (0 : Int32)) (aX2_placeFor 8 rfl) rfl ?_
    refine pw_istoren (L2 := [(3, .int ((0 : Int32))), (0, va_rf (h_rf base (a1))), (1, .long (a2))]) (aX2_placeFor 9 rfl) (by first | rfl | (simp [x_s1, x_s2, va_cat, va_ci, va_cl, va_cr, va_cn]; done) | (simp [x_s1, x_s2, va_cat, va_ci, va_cl, va_cr, va_cn]; decide)) ?_
    exact pw_Li (L2 := [(0, va_rf (h_rf base (a1))), (1, .long (a2)), (3, .int ((0 : Int32)))]) [2, 0, 1] (rX2_placeFor_16 hkb a1 a2 ((0 : Int32)) n sl SH FI FL FR hok  ) ⟨rfl, rfl, rfl, trivial⟩
set_option maxHeartbeats 4000000 in
set_option maxRecDepth 100000 in
theorem rX2_say_87 {sk : xK} {base N d : Nat} {K23 : Option Nat → Nat → Nat → (Nat → Nat × Nat) → (Nat → Nat → Int32) → (Nat → Nat → Int64) → (Nat → Nat → Option Nat) → Int32 → hS → Prop} (hkb : x_kb sk base) (a1 : Option Nat) (a2 : Int64) (l5o : Option Nat) (l4o : Option Nat) (n sl : Nat) (SH : Nat → Nat × Nat) (FI : Nat → Nat → Int32) (FL : Nat → Nat → Int64) (FR : Nat → Nat → Option Nat) (hok : pk n SH FR)  (hK23 : ∀ (l5o : Option Nat) (l4o : Option Nat) (n sl : Nat) (SH : Nat → Nat × Nat) (FI : Nat → Nat → Int32) (FL : Nat → Nat → Int64) (FR : Nat → Nat → Option Nat), pk n SH FR → pw pj_I sk base N d none 27 23 [(0, .ref (base + 90)), (1, va_rf (h_rf base (a1))), (2, .long (a2)), (4, va_rf (h_rf base (l4o))), (5, va_rf (h_rf base (l5o)))] [] (n, sl, SH, FI, FL, FR) (K23 l5o n sl SH FI FL FR)) : pw pj_I sk base N d none 27 87 [(0, .ref (base + 90)), (1, va_rf (h_rf base (a1))), (2, .long (a2)), (4, va_rf (h_rf base (l4o))), (5, va_rf (h_rf base (l5o)))] [] (n, sl, SH, FI, FL, FR) (RX2_say_87 K23 a1 a2 l5o n sl SH FI FL FR) := by
  unfold RX2_say_87
  refine pw_aload (aX2_say 41 rfl) rfl ?_
  refine pw_get (o := l5o) (v := fun c1 => va_rf (h_rf base (FR c1 5))) (aX2_say 42 rfl) uf_RX2_65 un_RX2_65 (fun _ => rfl) (fun c1 hc1 _ tc1 => ?_)
  refine pw_astore (L2 := [(5, va_rf (h_rf base (FR c1 5))), (0, .ref (base + 90)), (1, va_rf (h_rf base (a1))), (2, .long (a2)), (4, va_rf (h_rf base (l4o)))]) (aX2_say 43 rfl) (by first | rfl | (simp [x_s1, x_s2, va_cat, va_ci, va_cl, va_cr, va_cn]; done) | (simp [x_s1, x_s2, va_cat, va_ci, va_cl, va_cr, va_cn]; decide)) ?_
  refine pw_goto (tgt := 23) (aX2_say 44 rfl) (by decide) ?_
  exact pw_Li (L2 := [(0, .ref (base + 90)), (1, va_rf (h_rf base (a1))), (2, .long (a2)), (4, va_rf (h_rf base (l4o))), (5, va_rf (h_rf base (FR c1 5)))]) [4, 0, 1, 2, 3] (hK23 (FR c1 5) (l4o) n sl SH FI FL FR hok) ⟨rfl, rfl, rfl, rfl, rfl, trivial⟩
set_option maxHeartbeats 4000000 in
set_option maxRecDepth 100000 in
theorem bX2_say_23 {sk : xK} {base N d : Nat} {K23 : Option Nat → Nat → Nat → (Nat → Nat × Nat) → (Nat → Nat → Int32) → (Nat → Nat → Int64) → (Nat → Nat → Option Nat) → Int32 → hS → Prop} (hkb : x_kb sk base) (a1 : Option Nat) (a2 : Int64) (l5o : Option Nat) (l4o : Option Nat) (n sl : Nat) (SH : Nat → Nat × Nat) (FI : Nat → Nat → Int32) (FL : Nat → Nat → Int64) (FR : Nat → Nat → Option Nat) (hok : pk n SH FR)  (hK23 : ∀ (l5o : Option Nat) (l4o : Option Nat) (n sl : Nat) (SH : Nat → Nat × Nat) (FI : Nat → Nat → Int32) (FL : Nat → Nat → Int64) (FR : Nat → Nat → Option Nat), pk n SH FR → pw pj_I sk base N d none 27 23 [(0, .ref (base + 90)), (1, va_rf (h_rf base (a1))), (2, .long (a2)), (4, va_rf (h_rf base (l4o))), (5, va_rf (h_rf base (l5o)))] [] (n, sl, SH, FI, FL, FR) (K23 l5o n sl SH FI FL FR)) : pw pj_I sk base (N + 1) d none 27 23 [(0, .ref (base + 90)), (1, va_rf (h_rf base (a1))), (2, .long (a2)), (4, va_rf (h_rf base (l4o))), (5, va_rf (h_rf base (l5o)))] [] (n, sl, SH, FI, FL, FR) (BX2_say_23 K23 a1 a2 l5o n sl SH FI FL FR) := by
  unfold BX2_say_23
  refine pd_aload (aX2_say 12 rfl) rfl ?_
  refine pw_inull (o := l5o) (tgt := 97) (aX2_say 13 rfl) (by decide) (fun b0 => ?_) (fun b0 => ?_)
  · skip
    refine pw_aloadn (aX2_say 45 rfl) rfl ?_
    refine pw_getr (v := .int (FI 90 4)) (aX2_say 46 rfl) uf_RX2_33 un_RX2_33 rfl ?_
    exact pw_iret (aX2_say 47 rfl) hok
  · skip
    refine pw_aloadn (aX2_say 14 rfl) rfl ?_
    refine pw_getr (v := .int (FI 90 4)) (aX2_say 15 rfl) uf_RX2_33 un_RX2_33 rfl ?_
    refine pw_ifne (tgt := 97) (aX2_say 16 rfl) (by decide) (fun b1 => ?_) (fun b1 => ?_)
    · skip
      refine pw_aloadn (aX2_say 17 rfl) rfl ?_
      refine pw_aload (aX2_say 18 rfl) rfl ?_
      refine pw_callV (Bs := [va_rf (h_rf base (l5o))]) (L2 := [(0, .ref (base + 90)), (1, va_rf (h_rf base (l5o)))]) (rest := []) (aX2_say 19 rfl) um_RX2_44 ujX2_meet wc_RX2_44.2.2.2.2 (by decide) (by decide) rfl (by first | rfl | simp [lv_args, va_cat, va_ci, va_cl, va_cr, va_cn]) (fun d => rX2_meet hkb (l5o) n sl SH FI FL FR hok) (fun v2 n2 sl2 SH2 FI2 FL2 FR2 hok2 _ => ?_)
      show pw _ _ _ _ _ _ _ 41 _ [] _ _
      refine pw_aload (aX2_say 20 rfl) rfl ?_
      refine pw_get (o := l5o) (v := fun c4 => .int (FI2 c4 4)) (aX2_say 21 rfl) uf_RX2_48 un_RX2_48 (fun _ => rfl) (fun c4 hc4 _ tc4 => ?_)
      refine pw_iconst (v := (-1 : Int32)) (aX2_say 22 rfl) rfl ?_
      refine pw_icne (tgt := 67) (aX2_say 23 rfl) (by decide) (fun b4 => ?_) (fun b4 => ?_)
      · skip
        refine pw_aloadn (aX2_say 24 rfl) rfl ?_
        refine pw_getr (v := .ref (base + 91)) (aX2_say 25 rfl) uf_RX2_12 un_RX2_12 (congrArg (fun r => va_rf (h_rf base r)) (q90_2 (hok2).2.1)) ?_
        refine pw_callV (Bs := []) (rest := []) (aX2_say 26 rfl) um_RX2_53 ujX8_only wc_RX2_53.2.2.2.2 (by decide) (by decide) rfl rfl (fun d => rX8_only hkb 91 n2 sl2 SH2 FI2 FL2 FR2 hok2) (fun v5 n5 sl5 SH5 FI5 FL5 FR5 hok5 _ => ?_)
        show pw _ _ _ _ _ _ _ 57 _ [va_rf (h_rf base (v5))] _ _
        refine pw_aloadn (aX2_say 27 rfl) rfl ?_
        refine pw_getr (v := .ref (base + 109)) (aX2_say 28 rfl) uf_RX2_21 un_RX2_21 (congrArg (fun r => va_rf (h_rf base r)) (q90_3 (hok5).2.1)) ?_
        refine pw_callVo (o := v5) (Bs := [.ref (base + 109)]) (rest := []) (aX2_say 29 rfl) um_RX2_57 ujX5_take wc_RX2_57.2.2.2.2 (by decide) (by decide) rfl (fun _ => rfl) (fun c7 hc7 d => rX5_take hkb c7 (some 109) n5 sl5 SH5 FI5 FL5 FR5 hok5) (fun c7 hc7 v7 n7 sl7 SH7 FI7 FL7 FR7 hok7 _ => ?_)
        show pw _ _ _ _ _ _ _ 64 _ [] _ _
        refine pw_goto (tgt := 87) (aX2_say 30 rfl) (by decide) ?_
        exact pw_Li (L2 := [(0, .ref (base + 90)), (1, va_rf (h_rf base (a1))), (2, .long (a2)), (4, va_rf (h_rf base (l4o))), (5, va_rf (h_rf base (l5o)))]) [0, 1, 2, 3, 4] (rX2_say_87 hkb a1 a2 (l5o) (l4o) n7 sl7 SH7 FI7 FL7 FR7 hok7  hK23) ⟨rfl, rfl, rfl, rfl, rfl, trivial⟩
      · skip
        refine pw_aloadn (aX2_say 31 rfl) rfl ?_
        refine pw_getr (v := .ref (base + 91)) (aX2_say 32 rfl) uf_RX2_12 un_RX2_12 (congrArg (fun r => va_rf (h_rf base r)) (q90_2 (hok2).2.1)) ?_
        refine pw_aloadn (aX2_say 33 rfl) rfl ?_
        refine pw_getr (v := .ref (base + 109)) (aX2_say 34 rfl) uf_RX2_21 un_RX2_21 (congrArg (fun r => va_rf (h_rf base r)) (q90_3 (hok2).2.1)) ?_
        refine pw_aload (aX2_say 35 rfl) rfl ?_
        refine pw_get (o := l5o) (v := fun c9 => .int (FI2 c9 4)) (aX2_say 36 rfl) uf_RX2_48 un_RX2_48 (fun _ => rfl) (fun c9 hc9 _ tc9 => ?_)
        refine pw_bipush (v := (8 : Int32)) (aX2_say 37 rfl) rfl ?_
        refine pw_imul (aX2_say 38 rfl) ?_
        refine pw_iconst (v := (0 : Int32)) (aX2_say 39 rfl) rfl ?_
        refine pw_callV (Bs := [.ref (base + 109), .int ((FI2 c9 4) * ((8 : Int32))), .int ((0 : Int32))]) (rest := []) (aX2_say 40 rfl) um_RX2_61 ujX8_addPiece wc_RX2_61.2.2.2.2 (by decide) (by decide) rfl rfl (fun d => rX8_addPiece hkb 91 (some 109) ((FI2 c9 4) * ((8 : Int32))) ((0 : Int32)) n2 sl2 SH2 FI2 FL2 FR2 hok2) (fun v9 n9 sl9 SH9 FI9 FL9 FR9 hok9 _ => ?_)
        show pw _ _ _ _ _ _ _ 87 _ [] _ _
        exact pw_Li (L2 := [(0, .ref (base + 90)), (1, va_rf (h_rf base (a1))), (2, .long (a2)), (4, va_rf (h_rf base (l4o))), (5, va_rf (h_rf base (l5o)))]) [0, 1, 2, 3, 4] (rX2_say_87 hkb a1 a2 (l5o) (l4o) n9 sl9 SH9 FI9 FL9 FR9 hok9  hK23) ⟨rfl, rfl, rfl, rfl, rfl, trivial⟩
    · skip
      refine pw_aloadn (aX2_say 45 rfl) rfl ?_
      refine pw_getr (v := .int (FI 90 4)) (aX2_say 46 rfl) uf_RX2_33 un_RX2_33 rfl ?_
      exact pw_iret (aX2_say 47 rfl) hok
theorem gX2_say_23 {sk : xK} {base d : Nat}  (hkb : x_kb sk base) (a1 : Option Nat) (a2 : Int64) (N : Nat) :  ∀ (l5o : Option Nat) (l4o : Option Nat) (n sl : Nat) (SH : Nat → Nat × Nat) (FI : Nat → Nat → Int32) (FL : Nat → Nat → Int64) (FR : Nat → Nat → Option Nat), pk n SH FR → pw pj_I sk base N d none 27 23 [(0, .ref (base + 90)), (1, va_rf (h_rf base (a1))), (2, .long (a2)), (4, va_rf (h_rf base (l4o))), (5, va_rf (h_rf base (l5o)))] [] (n, sl, SH, FI, FL, FR) (GX2_say_23  a1 a2 (N + 1) l5o n sl SH FI FL FR) := by
  induction N with
  | zero => intros; exact pw_0
  | succ N ih => intro   l5o l4o n sl SH FI FL FR hok; exact bX2_say_23 hkb a1 a2 l5o l4o n sl SH FI FL FR hok  (ih  )
theorem rX2_say_23 {sk : xK} {base N d : Nat}  (hkb : x_kb sk base) (a1 : Option Nat) (a2 : Int64) (l5o : Option Nat) (l4o : Option Nat) (n sl : Nat) (SH : Nat → Nat × Nat) (FI : Nat → Nat → Int32) (FL : Nat → Nat → Int64) (FR : Nat → Nat → Option Nat) (hok : pk n SH FR)   : pw pj_I sk base N d none 27 23 [(0, .ref (base + 90)), (1, va_rf (h_rf base (a1))), (2, .long (a2)), (4, va_rf (h_rf base (l4o))), (5, va_rf (h_rf base (l5o)))] [] (n, sl, SH, FI, FL, FR) (RX2_say_23  a1 a2 l5o n sl SH FI FL FR) := pw_cons (gX2_say_23 hkb a1 a2 N   l5o l4o n sl SH FI FL FR hok) (fun _ _ h => ⟨_, h⟩)
set_option maxHeartbeats 4000000 in
set_option maxRecDepth 100000 in
theorem rX2_say {sk : xK} {base N d : Nat} (hkb : x_kb sk base) (a1 : Option Nat) (a2 : Int64) (n sl : Nat) (SH : Nat → Nat × Nat) (FI : Nat → Nat → Int32) (FL : Nat → Nat → Int64) (FR : Nat → Nat → Option Nat) (hok : pk n SH FR)  : pw pj_I sk base N d none 27 0 [(0, .ref (base + 90)), (1, va_rf (h_rf base (a1))), (2, .long (a2))] [] (n, sl, SH, FI, FL, FR) (RX2_say a1 a2 n sl SH FI FL FR) := by
  unfold RX2_say
  refine pw_aloadn (aX2_say 0 rfl) rfl ?_
  refine pw_iconst (v := (0 : Int32)) (aX2_say 1 rfl) rfl ?_
  refine pw_putri (aX2_say 2 rfl) uf_RX2_33 (fun _ _ _ => rfl) (fun t1 => ?_)
  refine pw_aloadn (aX2_say 3 rfl) rfl ?_
  refine pw_getr (v := .ref (base + 91)) (aX2_say 4 rfl) uf_RX2_12 un_RX2_12 (congrArg (fun r => va_rf (h_rf base r)) (q90_2 (hok).2.1)) ?_
  refine pw_callV (Bs := []) (rest := []) (aX2_say 5 rfl) um_RX2_37 ujX8_clear wc_RX2_37.2.2.2.2 (by decide) (by decide) rfl rfl (fun d => rX8_clear hkb 91 n sl SH (h_up FI 90 4 ((0 : Int32))) FL FR hok) (fun v1 n1 sl1 SH1 FI1 FL1 FR1 hok1 _ => ?_)
  show pw _ _ _ _ _ _ _ 12 _ [] _ _
  refine pw_aloadn (aX2_say 6 rfl) rfl ?_
  refine pw_lloadn (aX2_say 7 rfl) rfl ?_
  refine pw_callS (As := [va_rf (h_rf base (a1)), .long (a2)]) (L2 := [(0, va_rf (h_rf base (a1))), (1, .long (a2))]) (rest := []) (aX2_say 8 rfl) um_RX2_40 ujX2_placeFor wc_RX2_40.2.2.2.2 (by decide) rfl (by first | rfl | simp [lv_args, va_cat, va_ci, va_cl, va_cr, va_cn]) (fun d => rX2_placeFor hkb (a1) (a2) n1 sl1 SH1 FI1 FL1 FR1 hok1) (fun v2 n2 sl2 SH2 FI2 FL2 FR2 hok2 _ => ?_)
  show pw _ _ _ _ _ _ _ 17 _ [va_rf (h_rf base (v2))] _ _
  refine pw_astore (L2 := [(4, va_rf (h_rf base (v2))), (0, .ref (base + 90)), (1, va_rf (h_rf base (a1))), (2, .long (a2))]) (aX2_say 9 rfl) (by first | rfl | (simp [x_s1, x_s2, va_cat, va_ci, va_cl, va_cr, va_cn]; done) | (simp [x_s1, x_s2, va_cat, va_ci, va_cl, va_cr, va_cn]; decide)) ?_
  refine pw_aload (aX2_say 10 rfl) rfl ?_
  refine pw_astore (L2 := [(5, va_rf (h_rf base (v2))), (4, va_rf (h_rf base (v2))), (0, .ref (base + 90)), (1, va_rf (h_rf base (a1))), (2, .long (a2))]) (aX2_say 11 rfl) (by first | rfl | (simp [x_s1, x_s2, va_cat, va_ci, va_cl, va_cr, va_cn]; done) | (simp [x_s1, x_s2, va_cat, va_ci, va_cl, va_cr, va_cn]; decide)) ?_
  exact pw_Li (L2 := [(0, .ref (base + 90)), (1, va_rf (h_rf base (a1))), (2, .long (a2)), (4, va_rf (h_rf base (v2))), (5, va_rf (h_rf base (v2)))]) [4, 3, 0, 1, 2] (rX2_say_23 hkb a1 a2 (v2) (v2) n2 sl2 SH2 FI2 FL2 FR2 hok2  ) ⟨rfl, rfl, rfl, rfl, rfl, trivial⟩
set_option maxHeartbeats 4000000 in
set_option maxRecDepth 100000 in
theorem rX11_means {sk : xK} {base N d : Nat} (hkb : x_kb sk base) (a1 : Int32) (a2 : Int64) (n sl : Nat) (SH : Nat → Nat × Nat) (FI : Nat → Nat → Int32) (FL : Nat → Nat → Int64) (FR : Nat → Nat → Option Nat) (hok : pk n SH FR)  : pw pj_I sk base N d none 151 0 [(0, .ref (base + 0)), (1, .int (a1)), (2, .long (a2))] [] (n, sl, SH, FI, FL, FR) (RX11_means a1 a2 n sl SH FI FL FR) := by
  unfold RX11_means
  refine pw_aloadn (aX11_means 0 rfl) rfl ?_
  refine pw_iloadn (aX11_means 1 rfl) rfl ?_
  refine pw_callV (Bs := [.int (a1)]) (rest := []) (aX11_means 2 rfl) um_RX11_256 ujX11_isVariable wc_RX11_256.2.2.2.2 (by decide) (by decide) rfl rfl (fun d => rX11_isVariable hkb (a1) n sl SH FI FL FR hok) (fun v0 n0 sl0 SH0 FI0 FL0 FR0 hok0 _ => ?_)
  show pw _ _ _ _ _ _ _ 5 _ [.int (v0)] _ _
  refine pw_ifne (tgt := 10) (aX11_means 3 rfl) (by decide) (fun b1 => ?_) (fun b1 => ?_)
  · skip
    refine pw_iconst (v := (-1 : Int32)) (aX11_means 4 rfl) rfl ?_
    exact pw_iret (aX11_means 5 rfl) hok0
  · skip
    refine pw_aloadn (aX11_means 6 rfl) rfl ?_
    refine pw_getr (v := .ref (base + 90)) (aX11_means 7 rfl) uf_RX11_51 un_RX11_51 (congrArg (fun r => va_rf (h_rf base r)) (q0_2 (hok0).2.1)) ?_
    refine pw_aloadn (aX11_means 8 rfl) rfl ?_
    refine pw_getr (v := va_rf (h_rf base (FR0 0 11))) (aX11_means 9 rfl) uf_RX11_28 un_RX11_28 rfl ?_
    refine pw_iloadn (aX11_means 10 rfl) rfl ?_
    refine pw_aald (ix := (a1).toInt.toNat) (o := FR0 0 11) (aX11_means 11 rfl) rfl (fun c3 hc3 _ gc3 => ?_)
    refine pw_lloadn (aX11_means 12 rfl) rfl ?_
    refine pw_callV (Bs := [va_rf (h_rf base (FR0 c3 (a1).toInt.toNat)), .long (a2)]) (L2 := [(0, .ref (base + 90)), (1, va_rf (h_rf base (FR0 c3 (a1).toInt.toNat))), (2, .long (a2))]) (rest := []) (aX11_means 13 rfl) um_RX11_271 ujX2_say wc_RX11_271.2.2.2.2 (by decide) (by decide) rfl (by first | rfl | simp [lv_args, va_cat, va_ci, va_cl, va_cr, va_cn]) (fun d => rX2_say hkb (FR0 c3 (a1).toInt.toNat) (a2) n0 sl0 SH0 FI0 FL0 FR0 hok0) (fun v3 n3 sl3 SH3 FI3 FL3 FR3 hok3 _ => ?_)
    show pw _ _ _ _ _ _ _ 24 _ [.int (v3)] _ _
    refine pw_istore (L2 := [(4, .int (v3)), (0, .ref (base + 0)), (1, .int (a1)), (2, .long (a2))]) (aX11_means 14 rfl) rfl ?_
    refine pw_iload (aX11_means 15 rfl) rfl ?_
    refine pw_ifne (tgt := 45) (aX11_means 16 rfl) (by decide) (fun b4 => ?_) (fun b4 => ?_)
    · skip
      refine pw_aloadn (aX11_means 17 rfl) rfl ?_
      refine pw_getr (v := .ref (base + 1)) (aX11_means 18 rfl) uf_RX11_10 un_RX11_10 (congrArg (fun r => va_rf (h_rf base r)) (q0_5 (hok3).2.1)) ?_
      refine pw_aloadn (aX11_means 19 rfl) rfl ?_
      refine pw_getr (v := .ref (base + 90)) (aX11_means 20 rfl) uf_RX11_51 un_RX11_51 (congrArg (fun r => va_rf (h_rf base r)) (q0_2 (hok3).2.1)) ?_
      refine pw_getr (v := .ref (base + 91)) (aX11_means 21 rfl) uf_RX11_275 un_RX11_275 (congrArg (fun r => va_rf (h_rf base r)) (q90_2 (hok3).2.1)) ?_
      refine pw_callV (Bs := [.ref (base + 91)]) (rest := []) (aX11_means 22 rfl) um_RX11_146 ujX8_take wc_RX11_146.2.2.2.2 (by decide) (by decide) rfl rfl (fun d => rX8_take hkb 1 (some 91) n3 sl3 SH3 FI3 FL3 FR3 hok3) (fun v5 n5 sl5 SH5 FI5 FL5 FR5 hok5 _ => ?_)
      show pw _ _ _ _ _ _ _ 45 _ [] _ _
      refine pw_aloadn (aX11_means 23 rfl) rfl ?_
      refine pw_iload (aX11_means 24 rfl) rfl ?_
      refine pw_iconst (v := (0 : Int32)) (aX11_means 25 rfl) rfl ?_
      refine pw_iconst (v := (0 : Int32)) (aX11_means 26 rfl) rfl ?_
      refine pw_iconst (v := (0 : Int32)) (aX11_means 27 rfl) rfl ?_
      refine pw_callV (Bs := [.int (v3), .int ((0 : Int32)), .int ((0 : Int32)), .int ((0 : Int32))]) (rest := []) (aX11_means 28 rfl) um_RX11_159 ujX11_tell wc_RX11_159.2.2.2.2 (by decide) (by decide) rfl rfl (fun d => rX11_tell hkb (v3) ((0 : Int32)) ((0 : Int32)) ((0 : Int32)) n5 sl5 SH5 FI5 FL5 FR5 hok5) (fun v6 n6 sl6 SH6 FI6 FL6 FR6 hok6 _ => ?_)
      show pw _ _ _ _ _ _ _ 54 _ [] _ _
      refine pw_iload (aX11_means 29 rfl) rfl ?_
      exact pw_iret (aX11_means 30 rfl) hok6
    · skip
      refine pw_aloadn (aX11_means 23 rfl) rfl ?_
      refine pw_iload (aX11_means 24 rfl) rfl ?_
      refine pw_iconst (v := (0 : Int32)) (aX11_means 25 rfl) rfl ?_
      refine pw_iconst (v := (0 : Int32)) (aX11_means 26 rfl) rfl ?_
      refine pw_iconst (v := (0 : Int32)) (aX11_means 27 rfl) rfl ?_
      refine pw_callV (Bs := [.int (v3), .int ((0 : Int32)), .int ((0 : Int32)), .int ((0 : Int32))]) (rest := []) (aX11_means 28 rfl) um_RX11_159 ujX11_tell wc_RX11_159.2.2.2.2 (by decide) (by decide) rfl rfl (fun d => rX11_tell hkb (v3) ((0 : Int32)) ((0 : Int32)) ((0 : Int32)) n3 sl3 SH3 FI3 FL3 FR3 hok3) (fun v7 n7 sl7 SH7 FI7 FL7 FR7 hok7 _ => ?_)
      show pw _ _ _ _ _ _ _ 54 _ [] _ _
      refine pw_iload (aX11_means 29 rfl) rfl ?_
      exact pw_iret (aX11_means 30 rfl) hok7

