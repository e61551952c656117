theorem um_RX12_197 : x_uM RX12 197 yX12_keep := x_uM_tb lM_RX12 rfl
theorem ujX12_keep : x_uJ yX12_keep 156 := x_uJ_nd (show xMM 156 = some _ from rfl)
def BX12_keep_14 (K14 : Int32 → Nat → Nat → (Nat → Nat × Nat) → (Nat → Nat → Int32) → (Nat → Nat → Int64) → (Nat → Nat → Option Nat) → Int32 → hS → Prop) (a1 : Int32) (a2 : Int32) (l3i : Int32) (n sl : Nat) (SH : Nat → Nat × Nat) (FI : Nat → Nat → Int32) (FL : Nat → Nat → Int64) (FR : Nat → Nat → Option Nat) : Int32 → hS → Prop := (P_if ((l3i).toInt < (FI 121 13).toInt) (P_and (p_in (l3i) (SH 126).2) (P_and (p_in ((a2) + (l3i)) (SH 124).2) (K14 ((l3i) + (1 : Int32)) n sl SH (h_up FI 124 ((a2) + (l3i)).toInt.toNat (FI 126 (l3i).toInt.toNat)) FL FR))) (P_and (p_in (a1) (SH 125).2) (P_and (p_in (a1) (SH 125).2) (P_ret (FI 121 13) (n, sl, SH, (h_up (h_up FI 125 (a1).toInt.toNat (FI 121 13)) 121 13 ((0 : Int32))), FL, FR)))))
set_option maxHeartbeats 4000000 in
set_option maxRecDepth 100000 in
theorem bX12_keep_14 {sk : xK} {base N d : Nat} {K14 : Int32 → Nat → Nat → (Nat → Nat × Nat) → (Nat → Nat → Int32) → (Nat → Nat → Int64) → (Nat → Nat → Option Nat) → Int32 → hS → Prop} (hkb : x_kb sk base) (a1 : Int32) (a2 : Int32) (l3i : Int32)  (n sl : Nat) (SH : Nat → Nat × Nat) (FI : Nat → Nat → Int32) (FL : Nat → Nat → Int64) (FR : Nat → Nat → Option Nat) (hok : pk n SH FR)  (hK14 : ∀ (l3i : Int32) (n sl : Nat) (SH : Nat → Nat × Nat) (FI : Nat → Nat → Int32) (FL : Nat → Nat → Int64) (FR : Nat → Nat → Option Nat), pk n SH FR → pw pj_I sk base N d none 156 14 [(0, .ref (base + 121)), (1, .int (a1)), (2, .int (a2)), (3, .int (l3i))] [] (n, sl, SH, FI, FL, FR) (K14 l3i n sl SH FI FL FR)) : pw pj_I sk base (N + 1) d none 156 14 [(0, .ref (base + 121)), (1, .int (a1)), (2, .int (a2)), (3, .int (l3i))] [] (n, sl, SH, FI, FL, FR) (BX12_keep_14 K14 a1 a2 l3i n sl SH FI FL FR) := by
  unfold BX12_keep_14
  refine pd_iloadn (aX12_keep 8 rfl) rfl ?_
  refine pw_aloadn (aX12_keep 9 rfl) rfl ?_
  refine pw_getr (v := .int (FI 121 13)) (aX12_keep 10 rfl) uf_RX12_190 un_RX12_190 rfl ?_
  refine pw_icge (tgt := 42) (aX12_keep 11 rfl) (by decide) (fun b0 => ?_) (fun b0 => ?_)
  · skip
    refine pw_aloadn (aX12_keep 12 rfl) rfl ?_
    refine pw_getr (v := .ref (base + 124)) (aX12_keep 13 rfl) uf_RX12_17 un_RX12_17 (congrArg (fun r => va_rf (h_rf base r)) (q121_3 (hok).2.1)) ?_
    refine pw_iloadn (aX12_keep 14 rfl) rfl ?_
    refine pw_iloadn (aX12_keep 15 rfl) rfl ?_
    refine pw_iadd (aX12_keep 16 rfl) ?_
    refine pw_aloadn (aX12_keep 17 rfl) rfl ?_
    refine pw_getr (v := .ref (base + 126)) (aX12_keep 18 rfl) uf_RX12_30 un_RX12_30 (congrArg (fun r => va_rf (h_rf base r)) (q121_12 (hok).2.1)) ?_
    refine pw_iloadn (aX12_keep 19 rfl) rfl ?_
    refine pw_ialdr (c := 126) (ix := (l3i).toInt.toNat) (aX12_keep 20 rfl) rfl (fun _ => ?_)
    refine pw_iastr (c := 124) (ix := ((a2) + (l3i)).toInt.toNat) (aX12_keep 21 rfl) rfl (fun _ => ?_)
    refine pw_iinc (v := (l3i) + (1 : Int32)) (L2 := [(3, .int ((l3i) + (1 : Int32))), (0, .ref (base + 121)), (1, .int (a1)), (2, .int (a2))]) (aX12_keep 22 rfl) rfl rfl rfl ?_
    refine pw_goto (tgt := 14) (aX12_keep 23 rfl) (by decide) ?_
    exact pw_Li (L2 := [(0, .ref (base + 121)), (1, .int (a1)), (2, .int (a2)), (3, .int ((l3i) + (1 : Int32)))]) [3, 0, 1, 2] (hK14 ((l3i) + (1 : Int32)) n sl SH (h_up FI 124 ((a2) + (l3i)).toInt.toNat (FI 126 (l3i).toInt.toNat)) FL FR hok) ⟨rfl, rfl, rfl, rfl, trivial⟩
  · skip
    refine pw_aloadn (aX12_keep 24 rfl) rfl ?_
    refine pw_getr (v := .ref (base + 125)) (aX12_keep 25 rfl) uf_RX12_20 un_RX12_20 (congrArg (fun r => va_rf (h_rf base r)) (q121_4 (hok).2.1)) ?_
    refine pw_iloadn (aX12_keep 26 rfl) rfl ?_
    refine pw_aloadn (aX12_keep 27 rfl) rfl ?_
    refine pw_getr (v := .int (FI 121 13)) (aX12_keep 28 rfl) uf_RX12_190 un_RX12_190 rfl ?_
    refine pw_iastr (c := 125) (ix := (a1).toInt.toNat) (aX12_keep 29 rfl) rfl (fun _ => ?_)
    refine pw_aloadn (aX12_keep 30 rfl) rfl ?_
    refine pw_iconst (v := (0 : Int32)) (aX12_keep 31 rfl) rfl ?_
    refine pw_putri (aX12_keep 32 rfl) uf_RX12_190 (fun _ _ _ => rfl) (fun t2 => ?_)
    refine pw_aloadn (aX12_keep 33 rfl) rfl ?_
    refine pw_getr (v := .ref (base + 125)) (aX12_keep 34 rfl) uf_RX12_20 un_RX12_20 (congrArg (fun r => va_rf (h_rf base r)) (q121_4 (hok).2.1)) ?_
    refine pw_iloadn (aX12_keep 35 rfl) rfl ?_
    refine pw_ialdr (c := 125) (ix := (a1).toInt.toNat) (aX12_keep 36 rfl) rfl (fun _ => ?_)
    rw [show (h_up (h_up FI 125 (a1).toInt.toNat (FI 121 13)) 121 13 ((0 : Int32))) 125 (a1).toInt.toNat = FI 121 13 from (by rw [h_up_nc (by decide), h_up_eq])]
    exact pw_iret (aX12_keep 37 rfl) hok
def GX12_keep_14  (a1 : Int32) (a2 : Int32) : Nat → Int32 → Nat → Nat → (Nat → Nat × Nat) → (Nat → Nat → Int32) → (Nat → Nat → Int64) → (Nat → Nat → Option Nat) → Int32 → hS → Prop
  | 0, _, _, _, _, _, _, _ => fun _ _ => False
  | g + 1, l3i, n, sl, SH, FI, FL, FR => BX12_keep_14  (GX12_keep_14  a1 a2 g) a1 a2 l3i n sl SH FI FL FR
def RX12_keep_14  (a1 : Int32) (a2 : Int32) (l3i : Int32) (n sl : Nat) (SH : Nat → Nat × Nat) (FI : Nat → Nat → Int32) (FL : Nat → Nat → Int64) (FR : Nat → Nat → Option Nat) : Int32 → hS → Prop := fun v s => ∃ g, GX12_keep_14  a1 a2 g l3i n sl SH FI FL FR v s
theorem gX12_keep_14 {sk : xK} {base d : Nat}  (hkb : x_kb sk base) (a1 : Int32) (a2 : Int32) (N : Nat) :  ∀ (l3i : Int32)  (n sl : Nat) (SH : Nat → Nat × Nat) (FI : Nat → Nat → Int32) (FL : Nat → Nat → Int64) (FR : Nat → Nat → Option Nat), pk n SH FR → pw pj_I sk base N d none 156 14 [(0, .ref (base + 121)), (1, .int (a1)), (2, .int (a2)), (3, .int (l3i))] [] (n, sl, SH, FI, FL, FR) (GX12_keep_14  a1 a2 (N + 1) l3i n sl SH FI FL FR) := by
  induction N with
  | zero => intros; exact pw_0
  | succ N ih => intro   l3i  n sl SH FI FL FR hok; exact bX12_keep_14 hkb a1 a2 l3i  n sl SH FI FL FR hok  (ih  )
theorem rX12_keep_14 {sk : xK} {base N d : Nat}  (hkb : x_kb sk base) (a1 : Int32) (a2 : Int32) (l3i : Int32)  (n sl : Nat) (SH : Nat → Nat × Nat) (FI : Nat → Nat → Int32) (FL : Nat → Nat → Int64) (FR : Nat → Nat → Option Nat) (hok : pk n SH FR)   : pw pj_I sk base N d none 156 14 [(0, .ref (base + 121)), (1, .int (a1)), (2, .int (a2)), (3, .int (l3i))] [] (n, sl, SH, FI, FL, FR) (RX12_keep_14  a1 a2 l3i n sl SH FI FL FR) := pw_cons (gX12_keep_14 hkb a1 a2 N   l3i  n sl SH FI FL FR hok) (fun _ _ h => ⟨_, h⟩)
def RX12_keep (a1 : Int32) (a2 : Int32) (n sl : Nat) (SH : Nat → Nat × Nat) (FI : Nat → Nat → Int32) (FL : Nat → Nat → Int64) (FR : Nat → Nat → Option Nat) : Int32 → hS → Prop := (P_if (((600 : Int32)).toInt < (FI 121 13).toInt) (P_ret ((-1 : Int32)) (n, sl, SH, FI, FL, FR)) (RX12_keep_14  a1 a2 ((0 : Int32)) n sl SH FI FL FR))
set_option maxHeartbeats 4000000 in
set_option maxRecDepth 100000 in
theorem rX12_keep {sk : xK} {base N d : Nat} (hkb : x_kb sk base) (a1 : Int32) (a2 : Int32) (n sl : Nat) (SH : Nat → Nat × Nat) (FI : Nat → Nat → Int32) (FL : Nat → Nat → Int64) (FR : Nat → Nat → Option Nat) (hok : pk n SH FR)  : pw pj_I sk base N d none 156 0 [(0, .ref (base + 121)), (1, .int (a1)), (2, .int (a2))] [] (n, sl, SH, FI, FL, FR) (RX12_keep a1 a2 n sl SH FI FL FR) := by
  unfold RX12_keep
  refine pw_aloadn (aX12_keep 0 rfl) rfl ?_
  refine pw_getr (v := .int (FI 121 13)) (aX12_keep 1 rfl) uf_RX12_190 un_RX12_190 rfl ?_
  refine pw_sipush (v := (600 : Int32)) (aX12_keep 2 rfl) rfl ?_
  refine pw_icle (tgt := 12) (aX12_keep 3 rfl) (by decide) (fun b0 => ?_) (fun b0 => ?_)
  · skip
    refine pw_iconst (v := (-1 : Int32)) (aX12_keep 4 rfl) rfl ?_
    exact pw_iret (aX12_keep 5 rfl) hok
  · skip
    refine pw_iconst (v := (0 : Int32)) (aX12_keep 6 rfl) rfl ?_
    refine pw_istoren (L2 := [(3, .int ((0 : Int32))), (0, .ref (base + 121)), (1, .int (a1)), (2, .int (a2))]) (aX12_keep 7 rfl) rfl ?_
    exact pw_Li (L2 := [(0, .ref (base + 121)), (1, .int (a1)), (2, .int (a2)), (3, .int ((0 : Int32)))]) [3, 0, 1, 2] (rX12_keep_14 hkb a1 a2 ((0 : Int32)) n sl SH FI FL FR hok  ) ⟨rfl, rfl, rfl, rfl, trivial⟩
def RX12_expression (a1 : Int32) (n sl : Nat) (SH : Nat → Nat × Nat) (FI : Nat → Nat → Int32) (FL : Nat → Nat → Int64) (FR : Nat → Nat → Option Nat) : Int32 → hS → Prop := (P_if ((a1).toInt < 0) (P_ret ((-1 : Int32)) (n, sl, SH, (h_up FI 121 0 ((0 : Int32))), FL, FR)) (P_if (((15 : Int32)).toInt < (a1).toInt) (P_ret ((-1 : Int32)) (n, sl, SH, (h_up FI 121 0 ((0 : Int32))), FL, FR)) (P_bi (RX12_keep (a1) (((600 : Int32)) * (a1)) n sl SH (h_up FI 121 0 ((0 : Int32))) FL FR) (fun v3 n3 sl3 SH3 FI3 FL3 FR3 => (P_ret (v3) (n3, sl3, SH3, FI3, FL3, FR3))))))
set_option maxHeartbeats 4000000 in
set_option maxRecDepth 100000 in
theorem rX12_expression {sk : xK} {base N d : Nat} (hkb : x_kb sk base) (a1 : Int32) (n sl : Nat) (SH : Nat → Nat × Nat) (FI : Nat → Nat → Int32) (FL : Nat → Nat → Int64) (FR : Nat → Nat → Option Nat) (hok : pk n SH FR)  : pw pj_I sk base N d none 157 0 [(0, .ref (base + 121)), (1, .int (a1))] [] (n, sl, SH, FI, FL, FR) (RX12_expression a1 n sl SH FI FL FR) := by
  unfold RX12_expression
  refine pw_aloadn (aX12_expression 0 rfl) rfl ?_
  refine pw_iconst (v := (0 : Int32)) (aX12_expression 1 rfl) rfl ?_
  refine pw_putri (aX12_expression 2 rfl) uf_RX12_187 (fun _ _ _ => rfl) (fun t1 => ?_)
  refine pw_iloadn (aX12_expression 3 rfl) rfl ?_
  refine pw_iflt (tgt := 15) (aX12_expression 4 rfl) (by decide) (fun b1 => ?_) (fun b1 => ?_)
  · skip
    refine pw_iconst (v := (-1 : Int32)) (aX12_expression 8 rfl) rfl ?_
    exact pw_iret (aX12_expression 9 rfl) hok
  · skip
    refine pw_iloadn (aX12_expression 5 rfl) rfl ?_
    refine pw_bipush (v := (15 : Int32)) (aX12_expression 6 rfl) rfl ?_
    refine pw_icle (tgt := 17) (aX12_expression 7 rfl) (by decide) (fun b2 => ?_) (fun b2 => ?_)
    · skip
      refine pw_iconst (v := (-1 : Int32)) (aX12_expression 8 rfl) rfl ?_
      exact pw_iret (aX12_expression 9 rfl) hok
    · skip
      refine pw_aloadn (aX12_expression 10 rfl) rfl ?_
      refine pw_iloadn (aX12_expression 11 rfl) rfl ?_
      refine pw_sipush (v := (600 : Int32)) (aX12_expression 12 rfl) rfl ?_
      refine pw_iloadn (aX12_expression 13 rfl) rfl ?_
      refine pw_imul (aX12_expression 14 rfl) ?_
      refine pw_callV (Bs := [.int (a1), .int (((600 : Int32)) * (a1))]) (rest := []) (aX12_expression 15 rfl) um_RX12_197 ujX12_keep wc_RX12_197.2.2.2.2 (by decide) (by decide) rfl rfl (fun d => rX12_keep hkb (a1) (((600 : Int32)) * (a1)) n sl SH (h_up FI 121 0 ((0 : Int32))) FL FR hok) (fun v3 n3 sl3 SH3 FI3 FL3 FR3 hok3 _ => ?_)
      show pw _ _ _ _ _ _ _ 27 _ [.int (v3)] _ _
      exact pw_iret (aX12_expression 16 rfl) hok3
def RX12_list (a1 : Int32) (n sl : Nat) (SH : Nat → Nat × Nat) (FI : Nat → Nat → Int32) (FL : Nat → Nat → Int64) (FR : Nat → Nat → Option Nat) : Int32 → hS → Prop := (P_if ((a1).toInt < 0) (P_ret ((-1 : Int32)) (n, sl, SH, (h_up FI 121 0 ((0 : Int32))), FL, FR)) (P_if (((3 : Int32)).toInt < (a1).toInt) (P_ret ((-1 : Int32)) (n, sl, SH, (h_up FI 121 0 ((0 : Int32))), FL, FR)) (P_bi (RX12_keep (((16 : Int32)) + (a1)) (((9600 : Int32)) + (((600 : Int32)) * (a1))) n sl SH (h_up FI 121 0 ((0 : Int32))) FL FR) (fun v3 n3 sl3 SH3 FI3 FL3 FR3 => (P_ret (v3) (n3, sl3, SH3, FI3, FL3, FR3))))))
set_option maxHeartbeats 4000000 in
set_option maxRecDepth 100000 in
theorem rX12_list {sk : xK} {base N d : Nat} (hkb : x_kb sk base) (a1 : Int32) (n sl : Nat) (SH : Nat → Nat × Nat) (FI : Nat → Nat → Int32) (FL : Nat → Nat → Int64) (FR : Nat → Nat → Option Nat) (hok : pk n SH FR)  : pw pj_I sk base N d none 158 0 [(0, .ref (base + 121)), (1, .int (a1))] [] (n, sl, SH, FI, FL, FR) (RX12_list a1 n sl SH FI FL FR) := by
  unfold RX12_list
  refine pw_aloadn (aX12_list 0 rfl) rfl ?_
  refine pw_iconst (v := (0 : Int32)) (aX12_list 1 rfl) rfl ?_
  refine pw_putri (aX12_list 2 rfl) uf_RX12_187 (fun _ _ _ => rfl) (fun t1 => ?_)
  refine pw_iloadn (aX12_list 3 rfl) rfl ?_
  refine pw_iflt (tgt := 14) (aX12_list 4 rfl) (by decide) (fun b1 => ?_) (fun b1 => ?_)
  · skip
    refine pw_iconst (v := (-1 : Int32)) (aX12_list 8 rfl) rfl ?_
    exact pw_iret (aX12_list 9 rfl) hok
  · skip
    refine pw_iloadn (aX12_list 5 rfl) rfl ?_
    refine pw_iconst (v := (3 : Int32)) (aX12_list 6 rfl) rfl ?_
    refine pw_icle (tgt := 16) (aX12_list 7 rfl) (by decide) (fun b2 => ?_) (fun b2 => ?_)
    · skip
      refine pw_iconst (v := (-1 : Int32)) (aX12_list 8 rfl) rfl ?_
      exact pw_iret (aX12_list 9 rfl) hok
    · skip
      refine pw_aloadn (aX12_list 10 rfl) rfl ?_
      refine pw_bipush (v := (16 : Int32)) (aX12_list 11 rfl) rfl ?_
      refine pw_iloadn (aX12_list 12 rfl) rfl ?_
      refine pw_iadd (aX12_list 13 rfl) ?_
      refine pw_sipush (v := (9600 : Int32)) (aX12_list 14 rfl) rfl ?_
      refine pw_sipush (v := (600 : Int32)) (aX12_list 15 rfl) rfl ?_
      refine pw_iloadn (aX12_list 16 rfl) rfl ?_
      refine pw_imul (aX12_list 17 rfl) ?_
      refine pw_iadd (aX12_list 18 rfl) ?_
      refine pw_callV (Bs := [.int (((16 : Int32)) + (a1)), .int (((9600 : Int32)) + (((600 : Int32)) * (a1)))]) (rest := []) (aX12_list 19 rfl) um_RX12_197 ujX12_keep wc_RX12_197.2.2.2.2 (by decide) (by decide) rfl rfl (fun d => rX12_keep hkb (((16 : Int32)) + (a1)) (((9600 : Int32)) + (((600 : Int32)) * (a1))) n sl SH (h_up FI 121 0 ((0 : Int32))) FL FR hok) (fun v3 n3 sl3 SH3 FI3 FL3 FR3 hok3 _ => ?_)
      show pw _ _ _ _ _ _ _ 33 _ [.int (v3)] _ _
      exact pw_iret (aX12_list 20 rfl) hok3

