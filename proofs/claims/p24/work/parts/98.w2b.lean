def BX12_puts_3 (K3 : Int32 → Nat → Nat → (Nat → Nat × Nat) → (Nat → Nat → Int32) → (Nat → Nat → Int64) → (Nat → Nat → Option Nat) → Unit → hS → Prop) (a1 : Int32) (l2i : Int32) (n sl : Nat) (SH : Nat → Nat × Nat) (FI : Nat → Nat → Int32) (FL : Nat → Nat → Int64) (FR : Nat → Nat → Option Nat) : Unit → hS → Prop := (P_if ((l2i).toInt < 0) (P_ret () (n, sl, SH, FI, FL, FR)) (P_and (p_in (FI 121 13) (SH 126).2) (K3 ((l2i) + (-8 : Int32)) n sl SH (h_up (h_up FI 126 (FI 121 13).toInt.toNat (((a1) >>> ((l2i) &&& 31)) &&& ((255 : Int32)))) 121 13 ((FI 121 13) + ((1 : Int32)))) FL FR)))
set_option maxHeartbeats 4000000 in
set_option maxRecDepth 100000 in
theorem bX12_puts_3 {sk : xK} {base N d : Nat} {K3 : Int32 → Nat → Nat → (Nat → Nat × Nat) → (Nat → Nat → Int32) → (Nat → Nat → Int64) → (Nat → Nat → Option Nat) → Unit → hS → Prop} (hkb : x_kb sk base) (a1 : Int32) (l2i : Int32)  (n sl : Nat) (SH : Nat → Nat × Nat) (FI : Nat → Nat → Int32) (FL : Nat → Nat → Int64) (FR : Nat → Nat → Option Nat) (hok : pk n SH FR)  (hK3 : ∀ (l2i : Int32) (n sl : Nat) (SH : Nat → Nat × Nat) (FI : Nat → Nat → Int32) (FL : Nat → Nat → Int64) (FR : Nat → Nat → Option Nat), pk n SH FR → pw pj_V sk base N d none 153 3 [(0, .ref (base + 121)), (1, .int (a1)), (2, .int (l2i))] [] (n, sl, SH, FI, FL, FR) (K3 l2i n sl SH FI FL FR)) : pw pj_V sk base (N + 1) d none 153 3 [(0, .ref (base + 121)), (1, .int (a1)), (2, .int (l2i))] [] (n, sl, SH, FI, FL, FR) (BX12_puts_3 K3 a1 l2i n sl SH FI FL FR) := by
  unfold BX12_puts_3
  refine pd_iloadn (aX12_puts 2 rfl) rfl ?_
  refine pw_iflt (tgt := 39) (aX12_puts 3 rfl) (by decide) (fun b0 => ?_) (fun b0 => ?_)
  · skip
    exact pw_vret (aX12_puts 22 rfl) hok
  · skip
    refine pw_aloadn (aX12_puts 4 rfl) rfl ?_
    refine pw_getr (v := .ref (base + 126)) (aX12_puts 5 rfl) uf_RX12_30 un_RX12_30 (congrArg (fun r => va_rf (h_rf base r)) (q121_12 (hok).2.1)) ?_
    refine pw_aloadn (aX12_puts 6 rfl) rfl ?_
    refine pw_getr (v := .int (FI 121 13)) (aX12_puts 7 rfl) uf_RX12_190 un_RX12_190 rfl ?_
    refine pw_iloadn (aX12_puts 8 rfl) rfl ?_
    refine pw_iloadn (aX12_puts 9 rfl) rfl ?_
    refine pw_ishr (aX12_puts 10 rfl) ?_
    refine pw_sipush (v := (255 : Int32)) (aX12_puts 11 rfl) rfl ?_
    refine pw_iand (aX12_puts 12 rfl) ?_
    refine pw_iastr (c := 126) (ix := (FI 121 13).toInt.toNat) (aX12_puts 13 rfl) rfl (fun _ => ?_)
    refine pw_aloadn (aX12_puts 14 rfl) rfl ?_
    refine pw_aloadn (aX12_puts 15 rfl) rfl ?_
    refine pw_getr (v := .int (FI 121 13)) (aX12_puts 16 rfl) uf_RX12_190 un_RX12_190 rfl ?_
    refine pw_iconst (v := (1 : Int32)) (aX12_puts 17 rfl) rfl ?_
    refine pw_iadd (aX12_puts 18 rfl) ?_
    refine pw_putri (aX12_puts 19 rfl) uf_RX12_190 (fun _ _ _ => rfl) (fun t2 => ?_)
    refine pw_iinc (v := (l2i) + (-8 : Int32)) (L2 := [(2, .int ((l2i) + (-8 : Int32))), (0, .ref (base + 121)), (1, .int (a1))]) (aX12_puts 20 rfl) rfl rfl rfl ?_
    refine pw_goto (tgt := 3) (aX12_puts 21 rfl) (by decide) ?_
    exact pw_Li (L2 := [(0, .ref (base + 121)), (1, .int (a1)), (2, .int ((l2i) + (-8 : Int32)))]) [2, 0, 1] (hK3 ((l2i) + (-8 : Int32)) n sl SH (h_up (h_up FI 126 (FI 121 13).toInt.toNat (((a1) >>> ((l2i) &&& 31)) &&& ((255 : Int32)))) 121 13 ((FI 121 13) + ((1 : Int32)))) FL FR hok) ⟨rfl, rfl, rfl, trivial⟩
def GX12_puts_3  (a1 : Int32) : Nat → Int32 → Nat → Nat → (Nat → Nat × Nat) → (Nat → Nat → Int32) → (Nat → Nat → Int64) → (Nat → Nat → Option Nat) → Unit → hS → Prop
  | 0, _, _, _, _, _, _, _ => fun _ _ => False
  | g + 1, l2i, n, sl, SH, FI, FL, FR => BX12_puts_3  (GX12_puts_3  a1 g) a1 l2i n sl SH FI FL FR
def RX12_puts_3  (a1 : Int32) (l2i : Int32) (n sl : Nat) (SH : Nat → Nat × Nat) (FI : Nat → Nat → Int32) (FL : Nat → Nat → Int64) (FR : Nat → Nat → Option Nat) : Unit → hS → Prop := fun v s => ∃ g, GX12_puts_3  a1 g l2i n sl SH FI FL FR v s
theorem gX12_puts_3 {sk : xK} {base d : Nat}  (hkb : x_kb sk base) (a1 : Int32) (N : Nat) :  ∀ (l2i : Int32)  (n sl : Nat) (SH : Nat → Nat × Nat) (FI : Nat → Nat → Int32) (FL : Nat → Nat → Int64) (FR : Nat → Nat → Option Nat), pk n SH FR → pw pj_V sk base N d none 153 3 [(0, .ref (base + 121)), (1, .int (a1)), (2, .int (l2i))] [] (n, sl, SH, FI, FL, FR) (GX12_puts_3  a1 (N + 1) l2i n sl SH FI FL FR) := by
  induction N with
  | zero => intros; exact pw_0
  | succ N ih => intro   l2i  n sl SH FI FL FR hok; exact bX12_puts_3 hkb a1 l2i  n sl SH FI FL FR hok  (ih  )
theorem rX12_puts_3 {sk : xK} {base N d : Nat}  (hkb : x_kb sk base) (a1 : Int32) (l2i : Int32)  (n sl : Nat) (SH : Nat → Nat × Nat) (FI : Nat → Nat → Int32) (FL : Nat → Nat → Int64) (FR : Nat → Nat → Option Nat) (hok : pk n SH FR)   : pw pj_V sk base N d none 153 3 [(0, .ref (base + 121)), (1, .int (a1)), (2, .int (l2i))] [] (n, sl, SH, FI, FL, FR) (RX12_puts_3  a1 l2i n sl SH FI FL FR) := pw_cons (gX12_puts_3 hkb a1 N   l2i  n sl SH FI FL FR hok) (fun _ _ h => ⟨_, h⟩)
def RX12_puts (a1 : Int32) (n sl : Nat) (SH : Nat → Nat × Nat) (FI : Nat → Nat → Int32) (FL : Nat → Nat → Int64) (FR : Nat → Nat → Option Nat) : Unit → hS → Prop := (RX12_puts_3  a1 ((24 : Int32)) n sl SH FI FL FR)
set_option maxHeartbeats 4000000 in
set_option maxRecDepth 100000 in
theorem rX12_puts {sk : xK} {base N d : Nat} (hkb : x_kb sk base) (a1 : Int32) (n sl : Nat) (SH : Nat → Nat × Nat) (FI : Nat → Nat → Int32) (FL : Nat → Nat → Int64) (FR : Nat → Nat → Option Nat) (hok : pk n SH FR)  : pw pj_V sk base N d none 153 0 [(0, .ref (base + 121)), (1, .int (a1))] [] (n, sl, SH, FI, FL, FR) (RX12_puts a1 n sl SH FI FL FR) := by
  unfold RX12_puts
  refine pw_bipush (v := (24 : Int32)) (aX12_puts 0 rfl) rfl ?_
  refine pw_istoren (L2 := [(2, .int ((24 : Int32))), (0, .ref (base + 121)), (1, .int (a1))]) (aX12_puts 1 rfl) rfl ?_
  exact pw_Li (L2 := [(0, .ref (base + 121)), (1, .int (a1)), (2, .int ((24 : Int32)))]) [2, 0, 1] (rX12_puts_3 hkb a1 ((24 : Int32)) n sl SH FI FL FR hok  ) ⟨rfl, rfl, rfl, trivial⟩
def RX12_feed (a1 : Int32) (a2 : Int32) (a3 : Int32) (a4 : Int32) (a5 : Int32) (n sl : Nat) (SH : Nat → Nat × Nat) (FI : Nat → Nat → Int32) (FL : Nat → Nat → Int64) (FR : Nat → Nat → Option Nat) : Int32 → hS → Prop := (P_if (((1000 : Int32)).toInt < ((FI 121 13) + ((20 : Int32))).toInt) (P_ret ((-1 : Int32)) (n, sl, SH, (h_up FI 121 0 ((0 : Int32))), FL, FR)) (P_bi (RX12_puts (a1) n sl SH (h_up FI 121 0 ((0 : Int32))) FL FR) (fun v2 n2 sl2 SH2 FI2 FL2 FR2 => (P_bi (RX12_puts (a2) n2 sl2 SH2 FI2 FL2 FR2) (fun v3 n3 sl3 SH3 FI3 FL3 FR3 => (P_bi (RX12_puts (a3) n3 sl3 SH3 FI3 FL3 FR3) (fun v4 n4 sl4 SH4 FI4 FL4 FR4 => (P_bi (RX12_puts (a4) n4 sl4 SH4 FI4 FL4 FR4) (fun v5 n5 sl5 SH5 FI5 FL5 FR5 => (P_bi (RX12_puts (a5) n5 sl5 SH5 FI5 FL5 FR5) (fun v6 n6 sl6 SH6 FI6 FL6 FR6 => (P_ret (FI6 121 13) (n6, sl6, SH6, FI6, FL6, FR6)))))))))))))
set_option maxHeartbeats 4000000 in
set_option maxRecDepth 100000 in
theorem rX12_feed {sk : xK} {base N d : Nat} (hkb : x_kb sk base) (a1 : Int32) (a2 : Int32) (a3 : Int32) (a4 : Int32) (a5 : Int32) (n sl : Nat) (SH : Nat → Nat × Nat) (FI : Nat → Nat → Int32) (FL : Nat → Nat → Int64) (FR : Nat → Nat → Option Nat) (hok : pk n SH FR)  : pw pj_I sk base N d none 154 0 [(0, .ref (base + 121)), (1, .int (a1)), (2, .int (a2)), (3, .int (a3)), (4, .int (a4)), (5, .int (a5))] [] (n, sl, SH, FI, FL, FR) (RX12_feed a1 a2 a3 a4 a5 n sl SH FI FL FR) := by
  unfold RX12_feed
  refine pw_aloadn (aX12_feed 0 rfl) rfl ?_
  refine pw_iconst (v := (0 : Int32)) (aX12_feed 1 rfl) rfl ?_
  refine pw_putri (aX12_feed 2 rfl) uf_RX12_187 (fun _ _ _ => rfl) (fun t1 => ?_)
  refine pw_aloadn (aX12_feed 3 rfl) rfl ?_
  refine pw_getr (v := .int (FI 121 13)) (aX12_feed 4 rfl) uf_RX12_190 un_RX12_190 rfl ?_
  refine pw_bipush (v := (20 : Int32)) (aX12_feed 5 rfl) rfl ?_
  refine pw_iadd (aX12_feed 6 rfl) ?_
  refine pw_sipush (v := (1000 : Int32)) (aX12_feed 7 rfl) rfl ?_
  refine pw_icle (tgt := 20) (aX12_feed 8 rfl) (by decide) (fun b1 => ?_) (fun b1 => ?_)
  · skip
    refine pw_iconst (v := (-1 : Int32)) (aX12_feed 9 rfl) rfl ?_
    exact pw_iret (aX12_feed 10 rfl) hok
  · skip
    refine pw_aloadn (aX12_feed 11 rfl) rfl ?_
    refine pw_iloadn (aX12_feed 12 rfl) rfl ?_
    refine pw_callV (Bs := [.int (a1)]) (rest := []) (aX12_feed 13 rfl) um_RX12_193 ujX12_puts wc_RX12_193.2.2.2.2 (by decide) (by decide) rfl rfl (fun d => rX12_puts hkb (a1) n sl SH (h_up FI 121 0 ((0 : Int32))) FL FR hok) (fun v2 n2 sl2 SH2 FI2 FL2 FR2 hok2 _ => ?_)
    show pw _ _ _ _ _ _ _ 25 _ [] _ _
    refine pw_aloadn (aX12_feed 14 rfl) rfl ?_
    refine pw_iloadn (aX12_feed 15 rfl) rfl ?_
    refine pw_callV (Bs := [.int (a2)]) (rest := []) (aX12_feed 16 rfl) um_RX12_193 ujX12_puts wc_RX12_193.2.2.2.2 (by decide) (by decide) rfl rfl (fun d => rX12_puts hkb (a2) n2 sl2 SH2 FI2 FL2 FR2 hok2) (fun v3 n3 sl3 SH3 FI3 FL3 FR3 hok3 _ => ?_)
    show pw _ _ _ _ _ _ _ 30 _ [] _ _
    refine pw_aloadn (aX12_feed 17 rfl) rfl ?_
    refine pw_iloadn (aX12_feed 18 rfl) rfl ?_
    refine pw_callV (Bs := [.int (a3)]) (rest := []) (aX12_feed 19 rfl) um_RX12_193 ujX12_puts wc_RX12_193.2.2.2.2 (by decide) (by decide) rfl rfl (fun d => rX12_puts hkb (a3) n3 sl3 SH3 FI3 FL3 FR3 hok3) (fun v4 n4 sl4 SH4 FI4 FL4 FR4 hok4 _ => ?_)
    show pw _ _ _ _ _ _ _ 35 _ [] _ _
    refine pw_aloadn (aX12_feed 20 rfl) rfl ?_
    refine pw_iload (aX12_feed 21 rfl) rfl ?_
    refine pw_callV (Bs := [.int (a4)]) (rest := []) (aX12_feed 22 rfl) um_RX12_193 ujX12_puts wc_RX12_193.2.2.2.2 (by decide) (by decide) rfl rfl (fun d => rX12_puts hkb (a4) n4 sl4 SH4 FI4 FL4 FR4 hok4) (fun v5 n5 sl5 SH5 FI5 FL5 FR5 hok5 _ => ?_)
    show pw _ _ _ _ _ _ _ 41 _ [] _ _
    refine pw_aloadn (aX12_feed 23 rfl) rfl ?_
    refine pw_iload (aX12_feed 24 rfl) rfl ?_
    refine pw_callV (Bs := [.int (a5)]) (rest := []) (aX12_feed 25 rfl) um_RX12_193 ujX12_puts wc_RX12_193.2.2.2.2 (by decide) (by decide) rfl rfl (fun d => rX12_puts hkb (a5) n5 sl5 SH5 FI5 FL5 FR5 hok5) (fun v6 n6 sl6 SH6 FI6 FL6 FR6 hok6 _ => ?_)
    show pw _ _ _ _ _ _ _ 47 _ [] _ _
    refine pw_aloadn (aX12_feed 26 rfl) rfl ?_
    refine pw_getr (v := .int (FI6 121 13)) (aX12_feed 27 rfl) uf_RX12_190 un_RX12_190 rfl ?_
    exact pw_iret (aX12_feed 28 rfl) hok6
def RX12_end (a1 : Int32) (n sl : Nat) (SH : Nat → Nat × Nat) (FI : Nat → Nat → Int32) (FL : Nat → Nat → Int64) (FR : Nat → Nat → Option Nat) : Int32 → hS → Prop := (P_if ((a1).toInt < 0) (P_ret ((-1 : Int32)) (n, sl, SH, (h_up FI 121 0 ((0 : Int32))), FL, FR)) (P_if ((FI 121 13).toInt < (a1).toInt) (P_ret ((-1 : Int32)) (n, sl, SH, (h_up FI 121 0 ((0 : Int32))), FL, FR)) (P_ret (a1) (n, sl, SH, (h_up (h_up FI 121 0 ((0 : Int32))) 121 13 (a1)), FL, FR))))
set_option maxHeartbeats 4000000 in
set_option maxRecDepth 100000 in
theorem rX12_end {sk : xK} {base N d : Nat} (hkb : x_kb sk base) (a1 : Int32) (n sl : Nat) (SH : Nat → Nat × Nat) (FI : Nat → Nat → Int32) (FL : Nat → Nat → Int64) (FR : Nat → Nat → Option Nat) (hok : pk n SH FR)  : pw pj_I sk base N d none 155 0 [(0, .ref (base + 121)), (1, .int (a1))] [] (n, sl, SH, FI, FL, FR) (RX12_end a1 n sl SH FI FL FR) := by
  unfold RX12_end
  refine pw_aloadn (aX12_end 0 rfl) rfl ?_
  refine pw_iconst (v := (0 : Int32)) (aX12_end 1 rfl) rfl ?_
  refine pw_putri (aX12_end 2 rfl) uf_RX12_187 (fun _ _ _ => rfl) (fun t1 => ?_)
  refine pw_iloadn (aX12_end 3 rfl) rfl ?_
  refine pw_iflt (tgt := 17) (aX12_end 4 rfl) (by decide) (fun b1 => ?_) (fun b1 => ?_)
  · skip
    refine pw_iconst (v := (-1 : Int32)) (aX12_end 9 rfl) rfl ?_
    exact pw_iret (aX12_end 10 rfl) hok
  · skip
    refine pw_iloadn (aX12_end 5 rfl) rfl ?_
    refine pw_aloadn (aX12_end 6 rfl) rfl ?_
    refine pw_getr (v := .int (FI 121 13)) (aX12_end 7 rfl) uf_RX12_190 un_RX12_190 rfl ?_
    refine pw_icle (tgt := 19) (aX12_end 8 rfl) (by decide) (fun b2 => ?_) (fun b2 => ?_)
    · skip
      refine pw_iconst (v := (-1 : Int32)) (aX12_end 9 rfl) rfl ?_
      exact pw_iret (aX12_end 10 rfl) hok
    · skip
      refine pw_aloadn (aX12_end 11 rfl) rfl ?_
      refine pw_iloadn (aX12_end 12 rfl) rfl ?_
      refine pw_putri (aX12_end 13 rfl) uf_RX12_190 (fun _ _ _ => rfl) (fun t4 => ?_)
      refine pw_iloadn (aX12_end 14 rfl) rfl ?_
      exact pw_iret (aX12_end 15 rfl) hok
def fX12_sign (a1 : Int32) (SH : Nat → Nat × Nat) (FI : Nat → Nat → Int32) (FL : Nat → Nat → Int64) (FR : Nat → Nat → Option Nat) : Int32 := (if (a1).toInt < (FI 121 13).toInt then (FI 126 (a1).toInt.toNat) else ((-1 : Int32)))
set_option maxHeartbeats 4000000 in
set_option maxRecDepth 100000 in
theorem rX12_sign {sk : xK} {base N d : Nat} (hkb : x_kb sk base) (a1 : Int32) (n sl : Nat) (SH : Nat → Nat × Nat) (FI : Nat → Nat → Int32) (FL : Nat → Nat → Int64) (FR : Nat → Nat → Option Nat) (hok : pk n SH FR)  : pw pj_I sk base N d none 206 0 [(0, .ref (base + 121)), (1, .int (a1))] [] (n, sl, SH, FI, FL, FR) (P_ret (fX12_sign a1 SH FI FL FR) (n, sl, SH, FI, FL, FR)) := by
  unfold fX12_sign
  refine pw_iloadn (aX12_sign 0 rfl) rfl ?_
  refine pw_aloadn (aX12_sign 1 rfl) rfl ?_
  refine pw_getr (v := .int (FI 121 13)) (aX12_sign 2 rfl) uf_RX12_190 un_RX12_190 rfl ?_
  refine pw_ite (pw_icge (tgt := 17) (aX12_sign 3 rfl) (by decide) (fun b0 => ?_) (fun b0 => ?_))
  · skip
    refine pw_aloadn (aX12_sign 4 rfl) rfl ?_
    refine pw_getr (v := .ref (base + 126)) (aX12_sign 5 rfl) uf_RX12_30 un_RX12_30 (congrArg (fun r => va_rf (h_rf base r)) (q121_12 (hok).2.1)) ?_
    refine pw_iloadn (aX12_sign 6 rfl) rfl ?_
    refine pw_sd (pw_ialdr (c := 126) (ix := (a1).toInt.toNat) (aX12_sign 7 rfl) rfl (fun _ => ?_))
    refine pw_goto (tgt := 18) (aX12_sign 8 rfl) (by decide) ?_
    exact pw_iret (aX12_sign 10 rfl) hok
  · skip
    refine pw_iconst (v := (-1 : Int32)) (aX12_sign 9 rfl) rfl ?_
    exact pw_iret (aX12_sign 10 rfl) hok
def fX12_isSmall (a1 : Int32) (SH : Nat → Nat × Nat) (FI : Nat → Nat → Int32) (FL : Nat → Nat → Int64) (FR : Nat → Nat → Option Nat) : Int32 := (if (a1).toInt < ((97 : Int32)).toInt then ((0 : Int32)) else (if ((122 : Int32)).toInt < (a1).toInt then ((0 : Int32)) else ((1 : Int32))))
set_option maxHeartbeats 4000000 in
set_option maxRecDepth 100000 in
theorem rX12_isSmall {sk : xK} {base N d : Nat} (hkb : x_kb sk base) (a1 : Int32) (n sl : Nat) (SH : Nat → Nat × Nat) (FI : Nat → Nat → Int32) (FL : Nat → Nat → Int64) (FR : Nat → Nat → Option Nat) (hok : pk n SH FR)  : pw pj_I sk base N d none 207 0 [(0, .ref (base + 121)), (1, .int (a1))] [] (n, sl, SH, FI, FL, FR) (P_ret (fX12_isSmall a1 SH FI FL FR) (n, sl, SH, FI, FL, FR)) := by
  unfold fX12_isSmall
  refine pw_iloadn (aX12_isSmall 0 rfl) rfl ?_
  refine pw_bipush (v := (97 : Int32)) (aX12_isSmall 1 rfl) rfl ?_
  refine pw_ite (pw_iclt (tgt := 16) (aX12_isSmall 2 rfl) (by decide) (fun b0 => ?_) (fun b0 => ?_))
  · skip
    refine pw_iconst (v := (0 : Int32)) (aX12_isSmall 8 rfl) rfl ?_
    exact pw_iret (aX12_isSmall 9 rfl) hok
  · skip
    refine pw_iloadn (aX12_isSmall 3 rfl) rfl ?_
    refine pw_bipush (v := (122 : Int32)) (aX12_isSmall 4 rfl) rfl ?_
    refine pw_ite (pw_icgt (tgt := 16) (aX12_isSmall 5 rfl) (by decide) (fun b1 => ?_) (fun b1 => ?_))
    · skip
      refine pw_iconst (v := (0 : Int32)) (aX12_isSmall 8 rfl) rfl ?_
      exact pw_iret (aX12_isSmall 9 rfl) hok
    · skip
      refine pw_iconst (v := (1 : Int32)) (aX12_isSmall 6 rfl) rfl ?_
      refine pw_goto (tgt := 17) (aX12_isSmall 7 rfl) (by decide) ?_
      exact pw_iret (aX12_isSmall 9 rfl) hok
def fX12_isDigit (a1 : Int32) (SH : Nat → Nat × Nat) (FI : Nat → Nat → Int32) (FL : Nat → Nat → Int64) (FR : Nat → Nat → Option Nat) : Int32 := (if (a1).toInt < ((48 : Int32)).toInt then ((0 : Int32)) else (if ((57 : Int32)).toInt < (a1).toInt then ((0 : Int32)) else ((1 : Int32))))
set_option maxHeartbeats 4000000 in
set_option maxRecDepth 100000 in
theorem rX12_isDigit {sk : xK} {base N d : Nat} (hkb : x_kb sk base) (a1 : Int32) (n sl : Nat) (SH : Nat → Nat × Nat) (FI : Nat → Nat → Int32) (FL : Nat → Nat → Int64) (FR : Nat → Nat → Option Nat) (hok : pk n SH FR)  : pw pj_I sk base N d none 208 0 [(0, .ref (base + 121)), (1, .int (a1))] [] (n, sl, SH, FI, FL, FR) (P_ret (fX12_isDigit a1 SH FI FL FR) (n, sl, SH, FI, FL, FR)) := by
  unfold fX12_isDigit
  refine pw_iloadn (aX12_isDigit 0 rfl) rfl ?_
  refine pw_bipush (v := (48 : Int32)) (aX12_isDigit 1 rfl) rfl ?_
  refine pw_ite (pw_iclt (tgt := 16) (aX12_isDigit 2 rfl) (by decide) (fun b0 => ?_) (fun b0 => ?_))
  · skip
    refine pw_iconst (v := (0 : Int32)) (aX12_isDigit 8 rfl) rfl ?_
    exact pw_iret (aX12_isDigit 9 rfl) hok
  · skip
    refine pw_iloadn (aX12_isDigit 3 rfl) rfl ?_
    refine pw_bipush (v := (57 : Int32)) (aX12_isDigit 4 rfl) rfl ?_
    refine pw_ite (pw_icgt (tgt := 16) (aX12_isDigit 5 rfl) (by decide) (fun b1 => ?_) (fun b1 => ?_))
    · skip
      refine pw_iconst (v := (0 : Int32)) (aX12_isDigit 8 rfl) rfl ?_
      exact pw_iret (aX12_isDigit 9 rfl) hok
    · skip
      refine pw_iconst (v := (1 : Int32)) (aX12_isDigit 6 rfl) rfl ?_
      refine pw_goto (tgt := 17) (aX12_isDigit 7 rfl) (by decide) ?_
      exact pw_iret (aX12_isDigit 9 rfl) hok
def fX12_isLetter (a1 : Int32) (SH : Nat → Nat × Nat) (FI : Nat → Nat → Int32) (FL : Nat → Nat → Int64) (FR : Nat → Nat → Option Nat) : Int32 := (if (fX12_isSmall (a1) SH FI FL FR).toInt = 0 then (if (a1).toInt < ((65 : Int32)).toInt then ((0 : Int32)) else (if ((90 : Int32)).toInt < (a1).toInt then ((0 : Int32)) else ((1 : Int32)))) else ((1 : Int32)))
set_option maxHeartbeats 4000000 in
set_option maxRecDepth 100000 in
theorem rX12_isLetter {sk : xK} {base N d : Nat} (hkb : x_kb sk base) (a1 : Int32) (n sl : Nat) (SH : Nat → Nat × Nat) (FI : Nat → Nat → Int32) (FL : Nat → Nat → Int64) (FR : Nat → Nat → Option Nat) (hok : pk n SH FR)  : pw pj_I sk base N d none 209 0 [(0, .ref (base + 121)), (1, .int (a1))] [] (n, sl, SH, FI, FL, FR) (P_ret (fX12_isLetter a1 SH FI FL FR) (n, sl, SH, FI, FL, FR)) := by
  unfold fX12_isLetter
  refine pw_aloadn (aX12_isLetter 0 rfl) rfl ?_
  refine pw_iloadn (aX12_isLetter 1 rfl) rfl ?_
  refine pw_cf (pw_callV (Bs := [.int (a1)]) (rest := []) (aX12_isLetter 2 rfl) um_RX12_423 ujX12_isSmall wc_RX12_423.2.2.2.2 (by decide) (by decide) rfl rfl (fun d => rX12_isSmall hkb (a1) n sl SH FI FL FR hok) (fun v0 n0 sl0 SH0 FI0 FL0 FR0 _ hC => ?_))
  obtain ⟨rfl, hC⟩ := hC; cases hC
  show pw _ _ _ _ _ _ _ 5 _ [.int (fX12_isSmall (a1) SH FI FL FR)] _ _
  refine pw_ite (pw_ifne (tgt := 20) (aX12_isLetter 3 rfl) (by decide) (fun b1 => ?_) (fun b1 => ?_))
  · skip
    refine pw_iloadn (aX12_isLetter 4 rfl) rfl ?_
    refine pw_bipush (v := (65 : Int32)) (aX12_isLetter 5 rfl) rfl ?_
    refine pw_ite (pw_iclt (tgt := 24) (aX12_isLetter 6 rfl) (by decide) (fun b2 => ?_) (fun b2 => ?_))
    · skip
      refine pw_iconst (v := (0 : Int32)) (aX12_isLetter 12 rfl) rfl ?_
      exact pw_iret (aX12_isLetter 13 rfl) hok
    · skip
      refine pw_iloadn (aX12_isLetter 7 rfl) rfl ?_
      refine pw_bipush (v := (90 : Int32)) (aX12_isLetter 8 rfl) rfl ?_
      refine pw_ite (pw_icgt (tgt := 24) (aX12_isLetter 9 rfl) (by decide) (fun b3 => ?_) (fun b3 => ?_))
      · skip
        refine pw_iconst (v := (0 : Int32)) (aX12_isLetter 12 rfl) rfl ?_
        exact pw_iret (aX12_isLetter 13 rfl) hok
      · skip
        refine pw_iconst (v := (1 : Int32)) (aX12_isLetter 10 rfl) rfl ?_
        refine pw_goto (tgt := 25) (aX12_isLetter 11 rfl) (by decide) ?_
        exact pw_iret (aX12_isLetter 13 rfl) hok
  · skip
    refine pw_iconst (v := (1 : Int32)) (aX12_isLetter 10 rfl) rfl ?_
    refine pw_goto (tgt := 25) (aX12_isLetter 11 rfl) (by decide) ?_
    exact pw_iret (aX12_isLetter 13 rfl) hok
def fX12_word (a1 : Int64) (SH : Nat → Nat × Nat) (FI : Nat → Nat → Int32) (FL : Nat → Nat → Int64) (FR : Nat → Nat → Option Nat) : Int32 := (if (a1).toInt = ((24834 : Int64)).toInt then ((0 : Int32)) else (if (a1).toInt = ((41299405 : Int64)).toInt then ((1 : Int32)) else (if (a1).toInt = ((5042231 : Int64)).toInt then ((2 : Int32)) else (if (a1).toInt = ((730200 : Int64)).toInt then ((3 : Int32)) else (if (a1).toInt = ((224 : Int64)).toInt then ((4 : Int32)) else (if (a1).toInt = ((4330 : Int64)).toInt then ((5 : Int32)) else (if (a1).toInt = ((20619 : Int64)).toInt then ((6 : Int32)) else (if (a1).toInt = ((27843 : Int64)).toInt then ((7 : Int32)) else (if (a1).toInt = ((5831 : Int64)).toInt then ((8 : Int32)) else (if (a1).toInt = ((18356 : Int64)).toInt then ((9 : Int32)) else ((-1 : Int32))))))))))))
set_option maxHeartbeats 4000000 in
set_option maxRecDepth 100000 in
theorem rX12_word {sk : xK} {base N d : Nat} (hkb : x_kb sk base) (a1 : Int64) (n sl : Nat) (SH : Nat → Nat × Nat) (FI : Nat → Nat → Int32) (FL : Nat → Nat → Int64) (FR : Nat → Nat → Option Nat) (hok : pk n SH FR)  : pw pj_I sk base N d none 210 0 [(0, .ref (base + 121)), (1, .long (a1))] [] (n, sl, SH, FI, FL, FR) (P_ret (fX12_word a1 SH FI FL FR) (n, sl, SH, FI, FL, FR)) := by
  unfold fX12_word
  refine pw_lloadn (aX12_word 0 rfl) rfl ?_
  refine pw_ldc2 (v := (24834 : Int64)) (aX12_word 1 rfl) uk_RX12_426 ?_
  refine pw_ite (pw_lcne (tgt := 10) (aX12_word 2 rfl) (aX12_word 3 rfl) (by decide) (fun b0 => ?_) (fun b0 => ?_))
  · skip
    refine pw_iconst (v := (0 : Int32)) (aX12_word 4 rfl) rfl ?_
    exact pw_iret (aX12_word 5 rfl) hok
  · skip
    refine pw_lloadn (aX12_word 6 rfl) rfl ?_
    refine pw_ldc2 (v := (41299405 : Int64)) (aX12_word 7 rfl) uk_RX12_428 ?_
    refine pw_ite (pw_lcne (tgt := 20) (aX12_word 8 rfl) (aX12_word 9 rfl) (by decide) (fun b1 => ?_) (fun b1 => ?_))
    · skip
      refine pw_iconst (v := (1 : Int32)) (aX12_word 10 rfl) rfl ?_
      exact pw_iret (aX12_word 11 rfl) hok
    · skip
      refine pw_lloadn (aX12_word 12 rfl) rfl ?_
      refine pw_ldc2 (v := (5042231 : Int64)) (aX12_word 13 rfl) uk_RX12_430 ?_
      refine pw_ite (pw_lcne (tgt := 30) (aX12_word 14 rfl) (aX12_word 15 rfl) (by decide) (fun b2 => ?_) (fun b2 => ?_))
      · skip
        refine pw_iconst (v := (2 : Int32)) (aX12_word 16 rfl) rfl ?_
        exact pw_iret (aX12_word 17 rfl) hok
      · skip
        refine pw_lloadn (aX12_word 18 rfl) rfl ?_
        refine pw_ldc2 (v := (730200 : Int64)) (aX12_word 19 rfl) uk_RX12_432 ?_
        refine pw_ite (pw_lcne (tgt := 40) (aX12_word 20 rfl) (aX12_word 21 rfl) (by decide) (fun b3 => ?_) (fun b3 => ?_))
        · skip
          refine pw_iconst (v := (3 : Int32)) (aX12_word 22 rfl) rfl ?_
          exact pw_iret (aX12_word 23 rfl) hok
        · skip
          refine pw_lloadn (aX12_word 24 rfl) rfl ?_
          refine pw_ldc2 (v := (224 : Int64)) (aX12_word 25 rfl) uk_RX12_434 ?_
          refine pw_ite (pw_lcne (tgt := 50) (aX12_word 26 rfl) (aX12_word 27 rfl) (by decide) (fun b4 => ?_) (fun b4 => ?_))
          · skip
            refine pw_iconst (v := (4 : Int32)) (aX12_word 28 rfl) rfl ?_
            exact pw_iret (aX12_word 29 rfl) hok
          · skip
            refine pw_lloadn (aX12_word 30 rfl) rfl ?_
            refine pw_ldc2 (v := (4330 : Int64)) (aX12_word 31 rfl) uk_RX12_436 ?_
            refine pw_ite (pw_lcne (tgt := 60) (aX12_word 32 rfl) (aX12_word 33 rfl) (by decide) (fun b5 => ?_) (fun b5 => ?_))
            · skip
              refine pw_iconst (v := (5 : Int32)) (aX12_word 34 rfl) rfl ?_
              exact pw_iret (aX12_word 35 rfl) hok
            · skip
              refine pw_lloadn (aX12_word 36 rfl) rfl ?_
              refine pw_ldc2 (v := (20619 : Int64)) (aX12_word 37 rfl) uk_RX12_438 ?_
              refine pw_ite (pw_lcne (tgt := 71) (aX12_word 38 rfl) (aX12_word 39 rfl) (by decide) (fun b6 => ?_) (fun b6 => ?_))
              · skip
                refine pw_bipush (v := (6 : Int32)) (aX12_word 40 rfl) rfl ?_
                exact pw_iret (aX12_word 41 rfl) hok
              · skip
                refine pw_lloadn (aX12_word 42 rfl) rfl ?_
                refine pw_ldc2 (v := (27843 : Int64)) (aX12_word 43 rfl) uk_RX12_440 ?_
                refine pw_ite (pw_lcne (tgt := 82) (aX12_word 44 rfl) (aX12_word 45 rfl) (by decide) (fun b7 => ?_) (fun b7 => ?_))
                · skip
                  refine pw_bipush (v := (7 : Int32)) (aX12_word 46 rfl) rfl ?_
                  exact pw_iret (aX12_word 47 rfl) hok
                · skip
                  refine pw_lloadn (aX12_word 48 rfl) rfl ?_
                  refine pw_ldc2 (v := (5831 : Int64)) (aX12_word 49 rfl) uk_RX12_442 ?_
                  refine pw_ite (pw_lcne (tgt := 93) (aX12_word 50 rfl) (aX12_word 51 rfl) (by decide) (fun b8 => ?_) (fun b8 => ?_))
                  · skip
                    refine pw_bipush (v := (8 : Int32)) (aX12_word 52 rfl) rfl ?_
                    exact pw_iret (aX12_word 53 rfl) hok
                  · skip
                    refine pw_lloadn (aX12_word 54 rfl) rfl ?_
                    refine pw_ldc2 (v := (18356 : Int64)) (aX12_word 55 rfl) uk_RX12_444 ?_
                    refine pw_ite (pw_lcne (tgt := 106) (aX12_word 56 rfl) (aX12_word 57 rfl) (by decide) (fun b9 => ?_) (fun b9 => ?_))
                    · skip
                      refine pw_bipush (v := (9 : Int32)) (aX12_word 58 rfl) rfl ?_
                      refine pw_goto (tgt := 107) (aX12_word 59 rfl) (by decide) ?_
                      exact pw_iret (aX12_word 61 rfl) hok
                    · skip
                      refine pw_iconst (v := (-1 : Int32)) (aX12_word 60 rfl) rfl ?_
                      exact pw_iret (aX12_word 61 rfl) hok
def RX12_token (a1 : Int32) (a2 : Int64) (a3 : Int32) (n sl : Nat) (SH : Nat → Nat × Nat) (FI : Nat → Nat → Int32) (FL : Nat → Nat → Int64) (FR : Nat → Nat → Option Nat) : Unit → hS → Prop := (P_and (p_in (FI 121 67) (SH 149).2) (P_and (p_in (FI 121 67) (SH 150).2) (P_and (p_in (FI 121 67) (SH 151).2) (P_ret () (n, sl, SH, (h_up (h_up (h_up FI 149 (FI 121 67).toInt.toNat (a1)) 151 (FI 121 67).toInt.toNat (a3)) 121 67 ((FI 121 67) + ((1 : Int32)))), (h_up FL 150 (FI 121 67).toInt.toNat (a2)), FR)))))
set_option maxHeartbeats 4000000 in
set_option maxRecDepth 100000 in
theorem rX12_token {sk : xK} {base N d : Nat} (hkb : x_kb sk base) (a1 : Int32) (a2 : Int64) (a3 : Int32) (n sl : Nat) (SH : Nat → Nat × Nat) (FI : Nat → Nat → Int32) (FL : Nat → Nat → Int64) (FR : Nat → Nat → Option Nat) (hok : pk n SH FR)  : pw pj_V sk base N d none 211 0 [(0, .ref (base + 121)), (1, .int (a1)), (2, .long (a2)), (4, .int (a3))] [] (n, sl, SH, FI, FL, FR) (RX12_token a1 a2 a3 n sl SH FI FL FR) := by
  unfold RX12_token
  refine pw_aloadn (aX12_token 0 rfl) rfl ?_
  refine pw_getr (v := .ref (base + 149)) (aX12_token 1 rfl) uf_RX12_105 un_RX12_105 (congrArg (fun r => va_rf (h_rf base r)) (q121_62 (hok).2.1)) ?_
  refine pw_aloadn (aX12_token 2 rfl) rfl ?_
  refine pw_getr (v := .int (FI 121 67)) (aX12_token 3 rfl) uf_RX12_446 un_RX12_446 rfl ?_
  refine pw_iloadn (aX12_token 4 rfl) rfl ?_
  refine pw_iastr (c := 149) (ix := (FI 121 67).toInt.toNat) (aX12_token 5 rfl) rfl (fun _ => ?_)
  refine pw_aloadn (aX12_token 6 rfl) rfl ?_
  refine pw_getr (v := .ref (base + 150)) (aX12_token 7 rfl) uf_RX12_108 un_RX12_108 (congrArg (fun r => va_rf (h_rf base r)) (q121_63 (hok).2.1)) ?_
  refine pw_aloadn (aX12_token 8 rfl) rfl ?_
  refine pw_getr (v := .int (FI 121 67)) (aX12_token 9 rfl) uf_RX12_446 un_RX12_446 rfl ?_
  refine pw_lloadn (aX12_token 10 rfl) rfl ?_
  refine pw_lastr (c := 150) (ix := (FI 121 67).toInt.toNat) (aX12_token 11 rfl) rfl (fun _ => ?_)
  refine pw_aloadn (aX12_token 12 rfl) rfl ?_
  refine pw_getr (v := .ref (base + 151)) (aX12_token 13 rfl) uf_RX12_111 un_RX12_111 (congrArg (fun r => va_rf (h_rf base r)) (q121_64 (hok).2.1)) ?_
  refine pw_aloadn (aX12_token 14 rfl) rfl ?_
  refine pw_getr (v := .int (FI 121 67)) (aX12_token 15 rfl) uf_RX12_446 un_RX12_446 rfl ?_
  refine pw_iload (aX12_token 16 rfl) rfl ?_
  refine pw_iastr (c := 151) (ix := (FI 121 67).toInt.toNat) (aX12_token 17 rfl) rfl (fun _ => ?_)
  refine pw_aloadn (aX12_token 18 rfl) rfl ?_
  refine pw_aloadn (aX12_token 19 rfl) rfl ?_
  refine pw_getr (v := .int (FI 121 67)) (aX12_token 20 rfl) uf_RX12_446 un_RX12_446 rfl ?_
  refine pw_iconst (v := (1 : Int32)) (aX12_token 21 rfl) rfl ?_
  refine pw_iadd (aX12_token 22 rfl) ?_
  refine pw_putri (aX12_token 23 rfl) uf_RX12_446 (fun _ _ _ => rfl) (fun t1 => ?_)
  exact pw_vret (aX12_token 24 rfl) hok
def RX12_signs_356  (a1 : Int32) (a2 : Int32) (l4i : Int32) (l5i : Int32) (n sl : Nat) (SH : Nat → Nat × Nat) (FI : Nat → Nat → Int32) (FL : Nat → Nat → Int64) (FR : Nat → Nat → Option Nat) : Int32 → hS → Prop := (P_if ((l4i).toInt = ((-1 : Int32)).toInt) (P_bi (RX12_token ((6 : Int32)) ((l4i).toInt64) (a2) n sl SH FI FL FR) (fun v1 n1 sl1 SH1 FI1 FL1 FR1 => (P_ret (l5i) (n1, sl1, SH1, FI1, FL1, FR1)))) (P_bi (RX12_token ((5 : Int32)) ((l4i).toInt64) (a2) n sl SH FI FL FR) (fun v2 n2 sl2 SH2 FI2 FL2 FR2 => (P_ret (l5i) (n2, sl2, SH2, FI2, FL2, FR2)))))
set_option maxHeartbeats 4000000 in
set_option maxRecDepth 100000 in
theorem rX12_signs_356 {sk : xK} {base N d : Nat}  (hkb : x_kb sk base) (a1 : Int32) (a2 : Int32) (l4i : Int32) (l5i : Int32) (l3i : Int32) (l6i : Int32) (n sl : Nat) (SH : Nat → Nat × Nat) (FI : Nat → Nat → Int32) (FL : Nat → Nat → Int64) (FR : Nat → Nat → Option Nat) (hok : pk n SH FR)   : pw pj_I sk base N d none 213 356 [(0, .ref (base + 121)), (1, .int (a1)), (2, .int (a2)), (3, .int (l3i)), (4, .int (l4i)), (5, .int (l5i)), (6, .int (l6i))] [] (n, sl, SH, FI, FL, FR) (RX12_signs_356  a1 a2 l4i l5i n sl SH FI FL FR) := by
  unfold RX12_signs_356
  refine pw_aloadn (aX12_signs 175 rfl) rfl ?_
  refine pw_iload (aX12_signs 176 rfl) rfl ?_
  refine pw_iconst (v := (-1 : Int32)) (aX12_signs 177 rfl) rfl ?_
  refine pw_icne (tgt := 368) (aX12_signs 178 rfl) (by decide) (fun b0 => ?_) (fun b0 => ?_)
  · skip
    refine pw_bipush (v := (6 : Int32)) (aX12_signs 179 rfl) rfl ?_
    refine pw_goto (tgt := 369) (aX12_signs 180 rfl) (by decide) ?_
    refine pw_iload (aX12_signs 182 rfl) rfl ?_
    refine pw_i2l (aX12_signs 183 rfl) ?_
    refine pw_iloadn (aX12_signs 184 rfl) rfl ?_
    refine pw_callV (Bs := [.int ((6 : Int32)), .long ((l4i).toInt64), .int (a2)]) (rest := []) (aX12_signs 185 rfl) um_RX12_457 ujX12_token wc_RX12_457.2.2.2.2 (by decide) (by decide) rfl rfl (fun d => rX12_token hkb ((6 : Int32)) ((l4i).toInt64) (a2) n sl SH FI FL FR hok) (fun v1 n1 sl1 SH1 FI1 FL1 FR1 hok1 _ => ?_)
    show pw _ _ _ _ _ _ _ 376 _ [] _ _
    refine pw_iload (aX12_signs 186 rfl) rfl ?_
    exact pw_iret (aX12_signs 187 rfl) hok1
  · skip
    refine pw_iconst (v := (5 : Int32)) (aX12_signs 181 rfl) rfl ?_
    refine pw_iload (aX12_signs 182 rfl) rfl ?_
    refine pw_i2l (aX12_signs 183 rfl) ?_
    refine pw_iloadn (aX12_signs 184 rfl) rfl ?_
    refine pw_callV (Bs := [.int ((5 : Int32)), .long ((l4i).toInt64), .int (a2)]) (rest := []) (aX12_signs 185 rfl) um_RX12_457 ujX12_token wc_RX12_457.2.2.2.2 (by decide) (by decide) rfl rfl (fun d => rX12_token hkb ((5 : Int32)) ((l4i).toInt64) (a2) n sl SH FI FL FR hok) (fun v2 n2 sl2 SH2 FI2 FL2 FR2 hok2 _ => ?_)
    show pw _ _ _ _ _ _ _ 376 _ [] _ _
    refine pw_iload (aX12_signs 186 rfl) rfl ?_
    exact pw_iret (aX12_signs 187 rfl) hok2
def RX12_signs_354  (a1 : Int32) (a2 : Int32) (l5i : Int32) (s0i : Int32) (n sl : Nat) (SH : Nat → Nat × Nat) (FI : Nat → Nat → Int32) (FL : Nat → Nat → Int64) (FR : Nat → Nat → Option Nat) : Int32 → hS → Prop := (RX12_signs_356  a1 a2 (s0i) (l5i) n sl SH FI FL FR)
set_option maxHeartbeats 4000000 in
set_option maxRecDepth 100000 in
theorem rX12_signs_354 {sk : xK} {base N d : Nat}  (hkb : x_kb sk base) (a1 : Int32) (a2 : Int32) (l5i : Int32) (s0i : Int32) (l3i : Int32) (l4i : Int32) (l6i : Int32) (n sl : Nat) (SH : Nat → Nat × Nat) (FI : Nat → Nat → Int32) (FL : Nat → Nat → Int64) (FR : Nat → Nat → Option Nat) (hok : pk n SH FR)   : pw pj_I sk base N d none 213 354 [(0, .ref (base + 121)), (1, .int (a1)), (2, .int (a2)), (3, .int (l3i)), (4, .int (l4i)), (5, .int (l5i)), (6, .int (l6i))] [.int (s0i)] (n, sl, SH, FI, FL, FR) (RX12_signs_354  a1 a2 l5i s0i n sl SH FI FL FR) := by
  unfold RX12_signs_354
  refine pw_istore (L2 := [(4, .int (s0i)), (0, .ref (base + 121)), (1, .int (a1)), (2, .int (a2)), (3, .int (l3i)), (5, .int (l5i)), (6, .int (l6i))]) (aX12_signs 174 rfl) rfl ?_
  exact pw_Li (L2 := [(0, .ref (base + 121)), (1, .int (a1)), (2, .int (a2)), (3, .int (l3i)), (4, .int (s0i)), (5, .int (l5i)), (6, .int (l6i))]) [4, 0, 1, 2, 3, 5, 6] (rX12_signs_356 hkb a1 a2 (s0i) (l5i) (l3i) (l6i) n sl SH FI FL FR hok  ) ⟨rfl, rfl, rfl, rfl, rfl, rfl, rfl, trivial⟩
def RX12_signs_342  (a1 : Int32) (a2 : Int32) (l5i : Int32) (s0i : Int32) (n sl : Nat) (SH : Nat → Nat × Nat) (FI : Nat → Nat → Int32) (FL : Nat → Nat → Int64) (FR : Nat → Nat → Option Nat) : Int32 → hS → Prop := (P_if ((s0i).toInt = 0) (RX12_signs_354  a1 a2 (l5i) ((-1 : Int32)) n sl SH FI FL FR) (RX12_signs_354  a1 a2 (l5i) (a1) n sl SH FI FL FR))
set_option maxHeartbeats 4000000 in
set_option maxRecDepth 100000 in
theorem rX12_signs_342 {sk : xK} {base N d : Nat}  (hkb : x_kb sk base) (a1 : Int32) (a2 : Int32) (l5i : Int32) (s0i : Int32) (l3i : Int32) (l4i : Int32) (l6i : Int32) (n sl : Nat) (SH : Nat → Nat × Nat) (FI : Nat → Nat → Int32) (FL : Nat → Nat → Int64) (FR : Nat → Nat → Option Nat) (hok : pk n SH FR)   : pw pj_I sk base N d none 213 342 [(0, .ref (base + 121)), (1, .int (a1)), (2, .int (a2)), (3, .int (l3i)), (4, .int (l4i)), (5, .int (l5i)), (6, .int (l6i))] [.int (s0i)] (n, sl, SH, FI, FL, FR) (RX12_signs_342  a1 a2 l5i s0i n sl SH FI FL FR) := by
  unfold RX12_signs_342
  refine pw_istore (L2 := [(6, .int (s0i)), (0, .ref (base + 121)), (1, .int (a1)), (2, .int (a2)), (3, .int (l3i)), (4, .int (l4i)), (5, .int (l5i))]) (aX12_signs 168 rfl) rfl ?_
  refine pw_iload (aX12_signs 169 rfl) rfl ?_
  refine pw_ifeq (tgt := 353) (aX12_signs 170 rfl) (by decide) (fun b0 => ?_) (fun b0 => ?_)
  · skip
    refine pw_iconst (v := (-1 : Int32)) (aX12_signs 173 rfl) rfl ?_
    exact pw_Li (L2 := [(0, .ref (base + 121)), (1, .int (a1)), (2, .int (a2)), (3, .int (l3i)), (4, .int (l4i)), (5, .int (l5i)), (6, .int (s0i))]) [6, 0, 1, 2, 3, 4, 5] (rX12_signs_354 hkb a1 a2 (l5i) ((-1 : Int32)) (l3i) (l4i) (s0i) n sl SH FI FL FR hok  ) ⟨rfl, rfl, rfl, rfl, rfl, rfl, rfl, trivial⟩
  · skip
    refine pw_iloadn (aX12_signs 171 rfl) rfl ?_
    refine pw_goto (tgt := 354) (aX12_signs 172 rfl) (by decide) ?_
    exact pw_Li (L2 := [(0, .ref (base + 121)), (1, .int (a1)), (2, .int (a2)), (3, .int (l3i)), (4, .int (l4i)), (5, .int (l5i)), (6, .int (s0i))]) [6, 0, 1, 2, 3, 4, 5] (rX12_signs_354 hkb a1 a2 (l5i) (a1) (l3i) (l4i) (s0i) n sl SH FI FL FR hok  ) ⟨rfl, rfl, rfl, rfl, rfl, rfl, rfl, trivial⟩
def RX12_signs_337  (a1 : Int32) (a2 : Int32) (l5i : Int32) (n sl : Nat) (SH : Nat → Nat × Nat) (FI : Nat → Nat → Int32) (FL : Nat → Nat → Int64) (FR : Nat → Nat → Option Nat) : Int32 → hS → Prop := (RX12_signs_342  a1 a2 (l5i) ((1 : Int32)) n sl SH FI FL FR)
set_option maxHeartbeats 4000000 in
set_option maxRecDepth 100000 in
theorem rX12_signs_337 {sk : xK} {base N d : Nat}  (hkb : x_kb sk base) (a1 : Int32) (a2 : Int32) (l5i : Int32) (l3i : Int32) (l4i : Int32) (l6i : Int32) (n sl : Nat) (SH : Nat → Nat × Nat) (FI : Nat → Nat → Int32) (FL : Nat → Nat → Int64) (FR : Nat → Nat → Option Nat) (hok : pk n SH FR)   : pw pj_I sk base N d none 213 337 [(0, .ref (base + 121)), (1, .int (a1)), (2, .int (a2)), (3, .int (l3i)), (4, .int (l4i)), (5, .int (l5i)), (6, .int (l6i))] [] (n, sl, SH, FI, FL, FR) (RX12_signs_337  a1 a2 l5i n sl SH FI FL FR) := by
  unfold RX12_signs_337
  refine pw_iconst (v := (1 : Int32)) (aX12_signs 165 rfl) rfl ?_
  refine pw_goto (tgt := 342) (aX12_signs 166 rfl) (by decide) ?_
  exact pw_Li (L2 := [(0, .ref (base + 121)), (1, .int (a1)), (2, .int (a2)), (3, .int (l3i)), (4, .int (l4i)), (5, .int (l5i)), (6, .int (l6i))]) [0, 1, 2, 3, 4, 5, 6] (rX12_signs_342 hkb a1 a2 (l5i) ((1 : Int32)) (l3i) (l4i) (l6i) n sl SH FI FL FR hok  ) ⟨rfl, rfl, rfl, rfl, rfl, rfl, rfl, trivial⟩
def RX12_signs_258  (a1 : Int32) (a2 : Int32) (l5i : Int32) (s0i : Int32) (n sl : Nat) (SH : Nat → Nat × Nat) (FI : Nat → Nat → Int32) (FL : Nat → Nat → Int64) (FR : Nat → Nat → Option Nat) : Int32 → hS → Prop := (P_if ((s0i).toInt = 0) (P_if ((a1).toInt = ((47 : Int32)).toInt) (RX12_signs_337  a1 a2 (l5i) n sl SH FI FL FR) (P_if ((a1).toInt = ((37 : Int32)).toInt) (RX12_signs_337  a1 a2 (l5i) n sl SH FI FL FR) (P_if ((a1).toInt = ((63 : Int32)).toInt) (RX12_signs_337  a1 a2 (l5i) n sl SH FI FL FR) (P_if ((a1).toInt = ((124 : Int32)).toInt) (RX12_signs_337  a1 a2 (l5i) n sl SH FI FL FR) (P_if ((a1).toInt = ((94 : Int32)).toInt) (RX12_signs_337  a1 a2 (l5i) n sl SH FI FL FR) (P_if ((a1).toInt = ((38 : Int32)).toInt) (RX12_signs_337  a1 a2 (l5i) n sl SH FI FL FR) (P_if ((a1).toInt = ((60 : Int32)).toInt) (RX12_signs_337  a1 a2 (l5i) n sl SH FI FL FR) (P_if ((a1).toInt = ((62 : Int32)).toInt) (RX12_signs_337  a1 a2 (l5i) n sl SH FI FL FR) (P_if ((a1).toInt = ((43 : Int32)).toInt) (RX12_signs_337  a1 a2 (l5i) n sl SH FI FL FR) (P_if ((a1).toInt = ((45 : Int32)).toInt) (RX12_signs_337  a1 a2 (l5i) n sl SH FI FL FR) (P_if ((a1).toInt = ((42 : Int32)).toInt) (RX12_signs_337  a1 a2 (l5i) n sl SH FI FL FR) (P_if ((a1).toInt = ((126 : Int32)).toInt) (RX12_signs_337  a1 a2 (l5i) n sl SH FI FL FR) (RX12_signs_342  a1 a2 (l5i) ((0 : Int32)) n sl SH FI FL FR))))))))))))) (RX12_signs_337  a1 a2 (l5i) n sl SH FI FL FR))
set_option maxHeartbeats 4000000 in
set_option maxRecDepth 100000 in
theorem rX12_signs_258 {sk : xK} {base N d : Nat}  (hkb : x_kb sk base) (a1 : Int32) (a2 : Int32) (l5i : Int32) (s0i : Int32) (l3i : Int32) (l4i : Int32) (n sl : Nat) (SH : Nat → Nat × Nat) (FI : Nat → Nat → Int32) (FL : Nat → Nat → Int64) (FR : Nat → Nat → Option Nat) (hok : pk n SH FR)   : pw pj_I sk base N d none 213 258 [(0, .ref (base + 121)), (1, .int (a1)), (2, .int (a2)), (3, .int (l3i)), (4, .int (l4i)), (5, .int (l5i))] [.int (s0i)] (n, sl, SH, FI, FL, FR) (RX12_signs_258  a1 a2 l5i s0i n sl SH FI FL FR) := by
  unfold RX12_signs_258
  refine pw_istore (L2 := [(6, .int (s0i)), (0, .ref (base + 121)), (1, .int (a1)), (2, .int (a2)), (3, .int (l3i)), (4, .int (l4i)), (5, .int (l5i))]) (aX12_signs 126 rfl) rfl ?_
  refine pw_iload (aX12_signs 127 rfl) rfl ?_
  refine pw_ifne (tgt := 337) (aX12_signs 128 rfl) (by decide) (fun b0 => ?_) (fun b0 => ?_)
  · skip
    refine pw_iloadn (aX12_signs 129 rfl) rfl ?_
    refine pw_bipush (v := (47 : Int32)) (aX12_signs 130 rfl) rfl ?_
    refine pw_iceq (tgt := 337) (aX12_signs 131 rfl) (by decide) (fun b1 => ?_) (fun b1 => ?_)
    · skip
      exact pw_Li (L2 := [(0, .ref (base + 121)), (1, .int (a1)), (2, .int (a2)), (3, .int (l3i)), (4, .int (l4i)), (5, .int (l5i)), (6, .int (s0i))]) [6, 0, 1, 2, 3, 4, 5] (rX12_signs_337 hkb a1 a2 (l5i) (l3i) (l4i) (s0i) n sl SH FI FL FR hok  ) ⟨rfl, rfl, rfl, rfl, rfl, rfl, rfl, trivial⟩
    · skip
      refine pw_iloadn (aX12_signs 132 rfl) rfl ?_
      refine pw_bipush (v := (37 : Int32)) (aX12_signs 133 rfl) rfl ?_
      refine pw_iceq (tgt := 337) (aX12_signs 134 rfl) (by decide) (fun b2 => ?_) (fun b2 => ?_)
      · skip
        exact pw_Li (L2 := [(0, .ref (base + 121)), (1, .int (a1)), (2, .int (a2)), (3, .int (l3i)), (4, .int (l4i)), (5, .int (l5i)), (6, .int (s0i))]) [6, 0, 1, 2, 3, 4, 5] (rX12_signs_337 hkb a1 a2 (l5i) (l3i) (l4i) (s0i) n sl SH FI FL FR hok  ) ⟨rfl, rfl, rfl, rfl, rfl, rfl, rfl, trivial⟩
      · skip
        refine pw_iloadn (aX12_signs 135 rfl) rfl ?_
        refine pw_bipush (v := (63 : Int32)) (aX12_signs 136 rfl) rfl ?_
        refine pw_iceq (tgt := 337) (aX12_signs 137 rfl) (by decide) (fun b3 => ?_) (fun b3 => ?_)
        · skip
          exact pw_Li (L2 := [(0, .ref (base + 121)), (1, .int (a1)), (2, .int (a2)), (3, .int (l3i)), (4, .int (l4i)), (5, .int (l5i)), (6, .int (s0i))]) [6, 0, 1, 2, 3, 4, 5] (rX12_signs_337 hkb a1 a2 (l5i) (l3i) (l4i) (s0i) n sl SH FI FL FR hok  ) ⟨rfl, rfl, rfl, rfl, rfl, rfl, rfl, trivial⟩
        · skip
          refine pw_iloadn (aX12_signs 138 rfl) rfl ?_
          refine pw_bipush (v := (124 : Int32)) (aX12_signs 139 rfl) rfl ?_
          refine pw_iceq (tgt := 337) (aX12_signs 140 rfl) (by decide) (fun b4 => ?_) (fun b4 => ?_)
          · skip
            exact pw_Li (L2 := [(0, .ref (base + 121)), (1, .int (a1)), (2, .int (a2)), (3, .int (l3i)), (4, .int (l4i)), (5, .int (l5i)), (6, .int (s0i))]) [6, 0, 1, 2, 3, 4, 5] (rX12_signs_337 hkb a1 a2 (l5i) (l3i) (l4i) (s0i) n sl SH FI FL FR hok  ) ⟨rfl, rfl, rfl, rfl, rfl, rfl, rfl, trivial⟩
          · skip
            refine pw_iloadn (aX12_signs 141 rfl) rfl ?_
            refine pw_bipush (v := (94 : Int32)) (aX12_signs 142 rfl) rfl ?_
            refine pw_iceq (tgt := 337) (aX12_signs 143 rfl) (by decide) (fun b5 => ?_) (fun b5 => ?_)
            · skip
              exact pw_Li (L2 := [(0, .ref (base + 121)), (1, .int (a1)), (2, .int (a2)), (3, .int (l3i)), (4, .int (l4i)), (5, .int (l5i)), (6, .int (s0i))]) [6, 0, 1, 2, 3, 4, 5] (rX12_signs_337 hkb a1 a2 (l5i) (l3i) (l4i) (s0i) n sl SH FI FL FR hok  ) ⟨rfl, rfl, rfl, rfl, rfl, rfl, rfl, trivial⟩
            · skip
              refine pw_iloadn (aX12_signs 144 rfl) rfl ?_
              refine pw_bipush (v := (38 : Int32)) (aX12_signs 145 rfl) rfl ?_
              refine pw_iceq (tgt := 337) (aX12_signs 146 rfl) (by decide) (fun b6 => ?_) (fun b6 => ?_)
              · skip
                exact pw_Li (L2 := [(0, .ref (base + 121)), (1, .int (a1)), (2, .int (a2)), (3, .int (l3i)), (4, .int (l4i)), (5, .int (l5i)), (6, .int (s0i))]) [6, 0, 1, 2, 3, 4, 5] (rX12_signs_337 hkb a1 a2 (l5i) (l3i) (l4i) (s0i) n sl SH FI FL FR hok  ) ⟨rfl, rfl, rfl, rfl, rfl, rfl, rfl, trivial⟩
              · skip
                refine pw_iloadn (aX12_signs 147 rfl) rfl ?_
                refine pw_bipush (v := (60 : Int32)) (aX12_signs 148 rfl) rfl ?_
                refine pw_iceq (tgt := 337) (aX12_signs 149 rfl) (by decide) (fun b7 => ?_) (fun b7 => ?_)
                · skip
                  exact pw_Li (L2 := [(0, .ref (base + 121)), (1, .int (a1)), (2, .int (a2)), (3, .int (l3i)), (4, .int (l4i)), (5, .int (l5i)), (6, .int (s0i))]) [6, 0, 1, 2, 3, 4, 5] (rX12_signs_337 hkb a1 a2 (l5i) (l3i) (l4i) (s0i) n sl SH FI FL FR hok  ) ⟨rfl, rfl, rfl, rfl, rfl, rfl, rfl, trivial⟩
                · skip
                  refine pw_iloadn (aX12_signs 150 rfl) rfl ?_
                  refine pw_bipush (v := (62 : Int32)) (aX12_signs 151 rfl) rfl ?_
                  refine pw_iceq (tgt := 337) (aX12_signs 152 rfl) (by decide) (fun b8 => ?_) (fun b8 => ?_)
                  · skip
                    exact pw_Li (L2 := [(0, .ref (base + 121)), (1, .int (a1)), (2, .int (a2)), (3, .int (l3i)), (4, .int (l4i)), (5, .int (l5i)), (6, .int (s0i))]) [6, 0, 1, 2, 3, 4, 5] (rX12_signs_337 hkb a1 a2 (l5i) (l3i) (l4i) (s0i) n sl SH FI FL FR hok  ) ⟨rfl, rfl, rfl, rfl, rfl, rfl, rfl, trivial⟩
                  · skip
                    refine pw_iloadn (aX12_signs 153 rfl) rfl ?_
                    refine pw_bipush (v := (43 : Int32)) (aX12_signs 154 rfl) rfl ?_
                    refine pw_iceq (tgt := 337) (aX12_signs 155 rfl) (by decide) (fun b9 => ?_) (fun b9 => ?_)
                    · skip
                      exact pw_Li (L2 := [(0, .ref (base + 121)), (1, .int (a1)), (2, .int (a2)), (3, .int (l3i)), (4, .int (l4i)), (5, .int (l5i)), (6, .int (s0i))]) [6, 0, 1, 2, 3, 4, 5] (rX12_signs_337 hkb a1 a2 (l5i) (l3i) (l4i) (s0i) n sl SH FI FL FR hok  ) ⟨rfl, rfl, rfl, rfl, rfl, rfl, rfl, trivial⟩
                    · skip
                      refine pw_iloadn (aX12_signs 156 rfl) rfl ?_
                      refine pw_bipush (v := (45 : Int32)) (aX12_signs 157 rfl) rfl ?_
                      refine pw_iceq (tgt := 337) (aX12_signs 158 rfl) (by decide) (fun b10 => ?_) (fun b10 => ?_)
                      · skip
                        exact pw_Li (L2 := [(0, .ref (base + 121)), (1, .int (a1)), (2, .int (a2)), (3, .int (l3i)), (4, .int (l4i)), (5, .int (l5i)), (6, .int (s0i))]) [6, 0, 1, 2, 3, 4, 5] (rX12_signs_337 hkb a1 a2 (l5i) (l3i) (l4i) (s0i) n sl SH FI FL FR hok  ) ⟨rfl, rfl, rfl, rfl, rfl, rfl, rfl, trivial⟩
                      · skip
                        refine pw_iloadn (aX12_signs 159 rfl) rfl ?_
                        refine pw_bipush (v := (42 : Int32)) (aX12_signs 160 rfl) rfl ?_
                        refine pw_iceq (tgt := 337) (aX12_signs 161 rfl) (by decide) (fun b11 => ?_) (fun b11 => ?_)
                        · skip
                          exact pw_Li (L2 := [(0, .ref (base + 121)), (1, .int (a1)), (2, .int (a2)), (3, .int (l3i)), (4, .int (l4i)), (5, .int (l5i)), (6, .int (s0i))]) [6, 0, 1, 2, 3, 4, 5] (rX12_signs_337 hkb a1 a2 (l5i) (l3i) (l4i) (s0i) n sl SH FI FL FR hok  ) ⟨rfl, rfl, rfl, rfl, rfl, rfl, rfl, trivial⟩
                        · skip
                          refine pw_iloadn (aX12_signs 162 rfl) rfl ?_
                          refine pw_bipush (v := (126 : Int32)) (aX12_signs 163 rfl) rfl ?_
                          refine pw_icne (tgt := 341) (aX12_signs 164 rfl) (by decide) (fun b12 => ?_) (fun b12 => ?_)
                          · skip
                            exact pw_Li (L2 := [(0, .ref (base + 121)), (1, .int (a1)), (2, .int (a2)), (3, .int (l3i)), (4, .int (l4i)), (5, .int (l5i)), (6, .int (s0i))]) [6, 0, 1, 2, 3, 4, 5] (rX12_signs_337 hkb a1 a2 (l5i) (l3i) (l4i) (s0i) n sl SH FI FL FR hok  ) ⟨rfl, rfl, rfl, rfl, rfl, rfl, rfl, trivial⟩
                          · skip
                            refine pw_iconst (v := (0 : Int32)) (aX12_signs 167 rfl) rfl ?_
                            exact pw_Li (L2 := [(0, .ref (base + 121)), (1, .int (a1)), (2, .int (a2)), (3, .int (l3i)), (4, .int (l4i)), (5, .int (l5i)), (6, .int (s0i))]) [6, 0, 1, 2, 3, 4, 5] (rX12_signs_342 hkb a1 a2 (l5i) ((0 : Int32)) (l3i) (l4i) (s0i) n sl SH FI FL FR hok  ) ⟨rfl, rfl, rfl, rfl, rfl, rfl, rfl, trivial⟩
  · skip
    exact pw_Li (L2 := [(0, .ref (base + 121)), (1, .int (a1)), (2, .int (a2)), (3, .int (l3i)), (4, .int (l4i)), (5, .int (l5i)), (6, .int (s0i))]) [6, 0, 1, 2, 3, 4, 5] (rX12_signs_337 hkb a1 a2 (l5i) (l3i) (l4i) (s0i) n sl SH FI FL FR hok  ) ⟨rfl, rfl, rfl, rfl, rfl, rfl, rfl, trivial⟩
def RX12_signs_253  (a1 : Int32) (a2 : Int32) (l5i : Int32) (n sl : Nat) (SH : Nat → Nat × Nat) (FI : Nat → Nat → Int32) (FL : Nat → Nat → Int64) (FR : Nat → Nat → Option Nat) : Int32 → hS → Prop := (RX12_signs_258  a1 a2 (l5i) ((1 : Int32)) n sl SH FI FL FR)
set_option maxHeartbeats 4000000 in
set_option maxRecDepth 100000 in
theorem rX12_signs_253 {sk : xK} {base N d : Nat}  (hkb : x_kb sk base) (a1 : Int32) (a2 : Int32) (l5i : Int32) (l3i : Int32) (l4i : Int32) (n sl : Nat) (SH : Nat → Nat × Nat) (FI : Nat → Nat → Int32) (FL : Nat → Nat → Int64) (FR : Nat → Nat → Option Nat) (hok : pk n SH FR)   : pw pj_I sk base N d none 213 253 [(0, .ref (base + 121)), (1, .int (a1)), (2, .int (a2)), (3, .int (l3i)), (4, .int (l4i)), (5, .int (l5i))] [] (n, sl, SH, FI, FL, FR) (RX12_signs_253  a1 a2 l5i n sl SH FI FL FR) := by
  unfold RX12_signs_253
  refine pw_iconst (v := (1 : Int32)) (aX12_signs 123 rfl) rfl ?_
  refine pw_goto (tgt := 258) (aX12_signs 124 rfl) (by decide) ?_
  exact pw_Li (L2 := [(0, .ref (base + 121)), (1, .int (a1)), (2, .int (a2)), (3, .int (l3i)), (4, .int (l4i)), (5, .int (l5i))]) [0, 1, 2, 3, 4, 5] (rX12_signs_258 hkb a1 a2 (l5i) ((1 : Int32)) (l3i) (l4i) n sl SH FI FL FR hok  ) ⟨rfl, rfl, rfl, rfl, rfl, rfl, trivial⟩
def RX12_signs_184  (a1 : Int32) (a2 : Int32) (l4i : Int32) (l5i : Int32) (n sl : Nat) (SH : Nat → Nat × Nat) (FI : Nat → Nat → Int32) (FL : Nat → Nat → Int64) (FR : Nat → Nat → Option Nat) : Int32 → hS → Prop := (P_if ((l4i).toInt = ((-1 : Int32)).toInt) (P_if ((a1).toInt = ((61 : Int32)).toInt) (RX12_signs_253  a1 a2 ((1 : Int32)) n sl SH FI FL FR) (P_if ((a1).toInt = ((59 : Int32)).toInt) (RX12_signs_253  a1 a2 ((1 : Int32)) n sl SH FI FL FR) (P_if ((a1).toInt = ((44 : Int32)).toInt) (RX12_signs_253  a1 a2 ((1 : Int32)) n sl SH FI FL FR) (P_if ((a1).toInt = ((58 : Int32)).toInt) (RX12_signs_253  a1 a2 ((1 : Int32)) n sl SH FI FL FR) (P_if ((a1).toInt = ((123 : Int32)).toInt) (RX12_signs_253  a1 a2 ((1 : Int32)) n sl SH FI FL FR) (P_if ((a1).toInt = ((125 : Int32)).toInt) (RX12_signs_253  a1 a2 ((1 : Int32)) n sl SH FI FL FR) (P_if ((a1).toInt = ((91 : Int32)).toInt) (RX12_signs_253  a1 a2 ((1 : Int32)) n sl SH FI FL FR) (P_if ((a1).toInt = ((93 : Int32)).toInt) (RX12_signs_253  a1 a2 ((1 : Int32)) n sl SH FI FL FR) (P_if ((a1).toInt = ((40 : Int32)).toInt) (RX12_signs_253  a1 a2 ((1 : Int32)) n sl SH FI FL FR) (P_if ((a1).toInt = ((41 : Int32)).toInt) (RX12_signs_253  a1 a2 ((1 : Int32)) n sl SH FI FL FR) (RX12_signs_258  a1 a2 ((1 : Int32)) ((0 : Int32)) n sl SH FI FL FR))))))))))) (RX12_signs_356  a1 a2 (l4i) (l5i) n sl SH FI FL FR))
set_option maxHeartbeats 4000000 in
set_option maxRecDepth 100000 in
theorem rX12_signs_184 {sk : xK} {base N d : Nat}  (hkb : x_kb sk base) (a1 : Int32) (a2 : Int32) (l4i : Int32) (l5i : Int32) (l3i : Int32) (n sl : Nat) (SH : Nat → Nat × Nat) (FI : Nat → Nat → Int32) (FL : Nat → Nat → Int64) (FR : Nat → Nat → Option Nat) (hok : pk n SH FR)   : pw pj_I sk base N d none 213 184 [(0, .ref (base + 121)), (1, .int (a1)), (2, .int (a2)), (3, .int (l3i)), (4, .int (l4i)), (5, .int (l5i))] [] (n, sl, SH, FI, FL, FR) (RX12_signs_184  a1 a2 l4i l5i n sl SH FI FL FR) := by
  unfold RX12_signs_184
  refine pw_iload (aX12_signs 88 rfl) rfl ?_
  refine pw_iconst (v := (-1 : Int32)) (aX12_signs 89 rfl) rfl ?_
  refine pw_icne (tgt := 356) (aX12_signs 90 rfl) (by decide) (fun b0 => ?_) (fun b0 => ?_)
  · skip
    refine pw_iconst (v := (1 : Int32)) (aX12_signs 91 rfl) rfl ?_
    refine pw_istore (L2 := [(5, .int ((1 : Int32))), (0, .ref (base + 121)), (1, .int (a1)), (2, .int (a2)), (3, .int (l3i)), (4, .int (l4i))]) (aX12_signs 92 rfl) rfl ?_
    refine pw_iloadn (aX12_signs 93 rfl) rfl ?_
    refine pw_bipush (v := (61 : Int32)) (aX12_signs 94 rfl) rfl ?_
    refine pw_iceq (tgt := 253) (aX12_signs 95 rfl) (by decide) (fun b1 => ?_) (fun b1 => ?_)
    · skip
      exact pw_Li (L2 := [(0, .ref (base + 121)), (1, .int (a1)), (2, .int (a2)), (3, .int (l3i)), (4, .int (l4i)), (5, .int ((1 : Int32)))]) [5, 0, 1, 2, 3, 4] (rX12_signs_253 hkb a1 a2 ((1 : Int32)) (l3i) (l4i) n sl SH FI FL FR hok  ) ⟨rfl, rfl, rfl, rfl, rfl, rfl, trivial⟩
    · skip
      refine pw_iloadn (aX12_signs 96 rfl) rfl ?_
      refine pw_bipush (v := (59 : Int32)) (aX12_signs 97 rfl) rfl ?_
      refine pw_iceq (tgt := 253) (aX12_signs 98 rfl) (by decide) (fun b2 => ?_) (fun b2 => ?_)
      · skip
        exact pw_Li (L2 := [(0, .ref (base + 121)), (1, .int (a1)), (2, .int (a2)), (3, .int (l3i)), (4, .int (l4i)), (5, .int ((1 : Int32)))]) [5, 0, 1, 2, 3, 4] (rX12_signs_253 hkb a1 a2 ((1 : Int32)) (l3i) (l4i) n sl SH FI FL FR hok  ) ⟨rfl, rfl, rfl, rfl, rfl, rfl, trivial⟩
      · skip
        refine pw_iloadn (aX12_signs 99 rfl) rfl ?_
        refine pw_bipush (v := (44 : Int32)) (aX12_signs 100 rfl) rfl ?_
        refine pw_iceq (tgt := 253) (aX12_signs 101 rfl) (by decide) (fun b3 => ?_) (fun b3 => ?_)
        · skip
          exact pw_Li (L2 := [(0, .ref (base + 121)), (1, .int (a1)), (2, .int (a2)), (3, .int (l3i)), (4, .int (l4i)), (5, .int ((1 : Int32)))]) [5, 0, 1, 2, 3, 4] (rX12_signs_253 hkb a1 a2 ((1 : Int32)) (l3i) (l4i) n sl SH FI FL FR hok  ) ⟨rfl, rfl, rfl, rfl, rfl, rfl, trivial⟩
        · skip
          refine pw_iloadn (aX12_signs 102 rfl) rfl ?_
          refine pw_bipush (v := (58 : Int32)) (aX12_signs 103 rfl) rfl ?_
          refine pw_iceq (tgt := 253) (aX12_signs 104 rfl) (by decide) (fun b4 => ?_) (fun b4 => ?_)
          · skip
            exact pw_Li (L2 := [(0, .ref (base + 121)), (1, .int (a1)), (2, .int (a2)), (3, .int (l3i)), (4, .int (l4i)), (5, .int ((1 : Int32)))]) [5, 0, 1, 2, 3, 4] (rX12_signs_253 hkb a1 a2 ((1 : Int32)) (l3i) (l4i) n sl SH FI FL FR hok  ) ⟨rfl, rfl, rfl, rfl, rfl, rfl, trivial⟩
          · skip
            refine pw_iloadn (aX12_signs 105 rfl) rfl ?_
            refine pw_bipush (v := (123 : Int32)) (aX12_signs 106 rfl) rfl ?_
            refine pw_iceq (tgt := 253) (aX12_signs 107 rfl) (by decide) (fun b5 => ?_) (fun b5 => ?_)
            · skip
              exact pw_Li (L2 := [(0, .ref (base + 121)), (1, .int (a1)), (2, .int (a2)), (3, .int (l3i)), (4, .int (l4i)), (5, .int ((1 : Int32)))]) [5, 0, 1, 2, 3, 4] (rX12_signs_253 hkb a1 a2 ((1 : Int32)) (l3i) (l4i) n sl SH FI FL FR hok  ) ⟨rfl, rfl, rfl, rfl, rfl, rfl, trivial⟩
            · skip
              refine pw_iloadn (aX12_signs 108 rfl) rfl ?_
              refine pw_bipush (v := (125 : Int32)) (aX12_signs 109 rfl) rfl ?_
              refine pw_iceq (tgt := 253) (aX12_signs 110 rfl) (by decide) (fun b6 => ?_) (fun b6 => ?_)
              · skip
                exact pw_Li (L2 := [(0, .ref (base + 121)), (1, .int (a1)), (2, .int (a2)), (3, .int (l3i)), (4, .int (l4i)), (5, .int ((1 : Int32)))]) [5, 0, 1, 2, 3, 4] (rX12_signs_253 hkb a1 a2 ((1 : Int32)) (l3i) (l4i) n sl SH FI FL FR hok  ) ⟨rfl, rfl, rfl, rfl, rfl, rfl, trivial⟩
              · skip
                refine pw_iloadn (aX12_signs 111 rfl) rfl ?_
                refine pw_bipush (v := (91 : Int32)) (aX12_signs 112 rfl) rfl ?_
                refine pw_iceq (tgt := 253) (aX12_signs 113 rfl) (by decide) (fun b7 => ?_) (fun b7 => ?_)
                · skip
                  exact pw_Li (L2 := [(0, .ref (base + 121)), (1, .int (a1)), (2, .int (a2)), (3, .int (l3i)), (4, .int (l4i)), (5, .int ((1 : Int32)))]) [5, 0, 1, 2, 3, 4] (rX12_signs_253 hkb a1 a2 ((1 : Int32)) (l3i) (l4i) n sl SH FI FL FR hok  ) ⟨rfl, rfl, rfl, rfl, rfl, rfl, trivial⟩
                · skip
                  refine pw_iloadn (aX12_signs 114 rfl) rfl ?_
                  refine pw_bipush (v := (93 : Int32)) (aX12_signs 115 rfl) rfl ?_
                  refine pw_iceq (tgt := 253) (aX12_signs 116 rfl) (by decide) (fun b8 => ?_) (fun b8 => ?_)
                  · skip
                    exact pw_Li (L2 := [(0, .ref (base + 121)), (1, .int (a1)), (2, .int (a2)), (3, .int (l3i)), (4, .int (l4i)), (5, .int ((1 : Int32)))]) [5, 0, 1, 2, 3, 4] (rX12_signs_253 hkb a1 a2 ((1 : Int32)) (l3i) (l4i) n sl SH FI FL FR hok  ) ⟨rfl, rfl, rfl, rfl, rfl, rfl, trivial⟩
                  · skip
                    refine pw_iloadn (aX12_signs 117 rfl) rfl ?_
                    refine pw_bipush (v := (40 : Int32)) (aX12_signs 118 rfl) rfl ?_
                    refine pw_iceq (tgt := 253) (aX12_signs 119 rfl) (by decide) (fun b9 => ?_) (fun b9 => ?_)
                    · skip
                      exact pw_Li (L2 := [(0, .ref (base + 121)), (1, .int (a1)), (2, .int (a2)), (3, .int (l3i)), (4, .int (l4i)), (5, .int ((1 : Int32)))]) [5, 0, 1, 2, 3, 4] (rX12_signs_253 hkb a1 a2 ((1 : Int32)) (l3i) (l4i) n sl SH FI FL FR hok  ) ⟨rfl, rfl, rfl, rfl, rfl, rfl, trivial⟩
                    · skip
                      refine pw_iloadn (aX12_signs 120 rfl) rfl ?_
                      refine pw_bipush (v := (41 : Int32)) (aX12_signs 121 rfl) rfl ?_
                      refine pw_icne (tgt := 257) (aX12_signs 122 rfl) (by decide) (fun b10 => ?_) (fun b10 => ?_)
                      · skip
                        exact pw_Li (L2 := [(0, .ref (base + 121)), (1, .int (a1)), (2, .int (a2)), (3, .int (l3i)), (4, .int (l4i)), (5, .int ((1 : Int32)))]) [5, 0, 1, 2, 3, 4] (rX12_signs_253 hkb a1 a2 ((1 : Int32)) (l3i) (l4i) n sl SH FI FL FR hok  ) ⟨rfl, rfl, rfl, rfl, rfl, rfl, trivial⟩
                      · skip
                        refine pw_iconst (v := (0 : Int32)) (aX12_signs 125 rfl) rfl ?_
                        exact pw_Li (L2 := [(0, .ref (base + 121)), (1, .int (a1)), (2, .int (a2)), (3, .int (l3i)), (4, .int (l4i)), (5, .int ((1 : Int32)))]) [5, 0, 1, 2, 3, 4] (rX12_signs_258 hkb a1 a2 ((1 : Int32)) ((0 : Int32)) (l3i) (l4i) n sl SH FI FL FR hok  ) ⟨rfl, rfl, rfl, rfl, rfl, rfl, trivial⟩
  · skip
    exact pw_Li (L2 := [(0, .ref (base + 121)), (1, .int (a1)), (2, .int (a2)), (3, .int (l3i)), (4, .int (l4i)), (5, .int (l5i)), (6, .int 0)]) [0, 1, 2, 3, 4, 5] (rX12_signs_356 hkb a1 a2 (l4i) (l5i) (l3i) 0 n sl SH FI FL FR hok  ) ⟨rfl, rfl, rfl, rfl, rfl, rfl, trivial⟩
def RX12_signs_182  (a1 : Int32) (a2 : Int32) (l4i : Int32) (s0i : Int32) (n sl : Nat) (SH : Nat → Nat × Nat) (FI : Nat → Nat → Int32) (FL : Nat → Nat → Int64) (FR : Nat → Nat → Option Nat) : Int32 → hS → Prop := (RX12_signs_184  a1 a2 (l4i) (s0i) n sl SH FI FL FR)
set_option maxHeartbeats 4000000 in
set_option maxRecDepth 100000 in
theorem rX12_signs_182 {sk : xK} {base N d : Nat}  (hkb : x_kb sk base) (a1 : Int32) (a2 : Int32) (l4i : Int32) (s0i : Int32) (l3i : Int32) (l5i : Int32) (n sl : Nat) (SH : Nat → Nat × Nat) (FI : Nat → Nat → Int32) (FL : Nat → Nat → Int64) (FR : Nat → Nat → Option Nat) (hok : pk n SH FR)   : pw pj_I sk base N d none 213 182 [(0, .ref (base + 121)), (1, .int (a1)), (2, .int (a2)), (3, .int (l3i)), (4, .int (l4i)), (5, .int (l5i))] [.int (s0i)] (n, sl, SH, FI, FL, FR) (RX12_signs_182  a1 a2 l4i s0i n sl SH FI FL FR) := by
  unfold RX12_signs_182
  refine pw_istore (L2 := [(5, .int (s0i)), (0, .ref (base + 121)), (1, .int (a1)), (2, .int (a2)), (3, .int (l3i)), (4, .int (l4i))]) (aX12_signs 87 rfl) rfl ?_
  exact pw_Li (L2 := [(0, .ref (base + 121)), (1, .int (a1)), (2, .int (a2)), (3, .int (l3i)), (4, .int (l4i)), (5, .int (s0i))]) [5, 0, 1, 2, 3, 4] (rX12_signs_184 hkb a1 a2 (l4i) (s0i) (l3i) n sl SH FI FL FR hok  ) ⟨rfl, rfl, rfl, rfl, rfl, rfl, trivial⟩
def RX12_signs_167  (a1 : Int32) (a2 : Int32) (s0i : Int32) (n sl : Nat) (SH : Nat → Nat × Nat) (FI : Nat → Nat → Int32) (FL : Nat → Nat → Int64) (FR : Nat → Nat → Option Nat) : Int32 → hS → Prop := (P_if ((s0i).toInt = ((263 : Int32)).toInt) (RX12_signs_182  a1 a2 (s0i) ((3 : Int32)) n sl SH FI FL FR) (RX12_signs_182  a1 a2 (s0i) ((2 : Int32)) n sl SH FI FL FR))
set_option maxHeartbeats 4000000 in
set_option maxRecDepth 100000 in
theorem rX12_signs_167 {sk : xK} {base N d : Nat}  (hkb : x_kb sk base) (a1 : Int32) (a2 : Int32) (s0i : Int32) (l3i : Int32) (l4i : Int32) (l5i : Int32) (n sl : Nat) (SH : Nat → Nat × Nat) (FI : Nat → Nat → Int32) (FL : Nat → Nat → Int64) (FR : Nat → Nat → Option Nat) (hok : pk n SH FR)   : pw pj_I sk base N d none 213 167 [(0, .ref (base + 121)), (1, .int (a1)), (2, .int (a2)), (3, .int (l3i)), (4, .int (l4i)), (5, .int (l5i))] [.int (s0i)] (n, sl, SH, FI, FL, FR) (RX12_signs_167  a1 a2 s0i n sl SH FI FL FR) := by
  unfold RX12_signs_167
  refine pw_istore (L2 := [(4, .int (s0i)), (0, .ref (base + 121)), (1, .int (a1)), (2, .int (a2)), (3, .int (l3i)), (5, .int (l5i))]) (aX12_signs 80 rfl) rfl ?_
  refine pw_iload (aX12_signs 81 rfl) rfl ?_
  refine pw_sipush (v := (263 : Int32)) (aX12_signs 82 rfl) rfl ?_
  refine pw_icne (tgt := 181) (aX12_signs 83 rfl) (by decide) (fun b0 => ?_) (fun b0 => ?_)
  · skip
    refine pw_iconst (v := (3 : Int32)) (aX12_signs 84 rfl) rfl ?_
    refine pw_goto (tgt := 182) (aX12_signs 85 rfl) (by decide) ?_
    exact pw_Li (L2 := [(0, .ref (base + 121)), (1, .int (a1)), (2, .int (a2)), (3, .int (l3i)), (4, .int (s0i)), (5, .int (l5i))]) [4, 0, 1, 2, 3, 5] (rX12_signs_182 hkb a1 a2 (s0i) ((3 : Int32)) (l3i) (l5i) n sl SH FI FL FR hok  ) ⟨rfl, rfl, rfl, rfl, rfl, rfl, trivial⟩
  · skip
    refine pw_iconst (v := (2 : Int32)) (aX12_signs 86 rfl) rfl ?_
    exact pw_Li (L2 := [(0, .ref (base + 121)), (1, .int (a1)), (2, .int (a2)), (3, .int (l3i)), (4, .int (s0i)), (5, .int (l5i))]) [4, 0, 1, 2, 3, 5] (rX12_signs_182 hkb a1 a2 (s0i) ((2 : Int32)) (l3i) (l5i) n sl SH FI FL FR hok  ) ⟨rfl, rfl, rfl, rfl, rfl, rfl, trivial⟩
def RX12_signs_134  (a1 : Int32) (a2 : Int32) (l3i : Int32) (l4i : Int32) (l5i : Int32) (n sl : Nat) (SH : Nat → Nat × Nat) (FI : Nat → Nat → Int32) (FL : Nat → Nat → Int64) (FR : Nat → Nat → Option Nat) : Int32 → hS → Prop := (P_if ((a1).toInt = ((62 : Int32)).toInt) (P_if ((l3i).toInt = ((62 : Int32)).toInt) (P_if ((fX12_sign ((a2) + ((2 : Int32))) SH FI FL FR).toInt = ((62 : Int32)).toInt) (RX12_signs_167  a1 a2 ((263 : Int32)) n sl SH FI FL FR) (RX12_signs_167  a1 a2 ((262 : Int32)) n sl SH FI FL FR)) (RX12_signs_184  a1 a2 (l4i) (l5i) n sl SH FI FL FR)) (RX12_signs_184  a1 a2 (l4i) (l5i) n sl SH FI FL FR))
set_option maxHeartbeats 4000000 in
set_option maxRecDepth 100000 in
theorem rX12_signs_134 {sk : xK} {base N d : Nat}  (hkb : x_kb sk base) (a1 : Int32) (a2 : Int32) (l3i : Int32) (l4i : Int32) (l5i : Int32)  (n sl : Nat) (SH : Nat → Nat × Nat) (FI : Nat → Nat → Int32) (FL : Nat → Nat → Int64) (FR : Nat → Nat → Option Nat) (hok : pk n SH FR)   : pw pj_I sk base N d none 213 134 [(0, .ref (base + 121)), (1, .int (a1)), (2, .int (a2)), (3, .int (l3i)), (4, .int (l4i)), (5, .int (l5i))] [] (n, sl, SH, FI, FL, FR) (RX12_signs_134  a1 a2 l3i l4i l5i n sl SH FI FL FR) := by
  unfold RX12_signs_134
  refine pw_iloadn (aX12_signs 64 rfl) rfl ?_
  refine pw_bipush (v := (62 : Int32)) (aX12_signs 65 rfl) rfl ?_
  refine pw_icne (tgt := 184) (aX12_signs 66 rfl) (by decide) (fun b0 => ?_) (fun b0 => ?_)
  · skip
    refine pw_iloadn (aX12_signs 67 rfl) rfl ?_
    refine pw_bipush (v := (62 : Int32)) (aX12_signs 68 rfl) rfl ?_
    refine pw_icne (tgt := 184) (aX12_signs 69 rfl) (by decide) (fun b1 => ?_) (fun b1 => ?_)
    · skip
      refine pw_aloadn (aX12_signs 70 rfl) rfl ?_
      refine pw_iloadn (aX12_signs 71 rfl) rfl ?_
      refine pw_iconst (v := (2 : Int32)) (aX12_signs 72 rfl) rfl ?_
      refine pw_iadd (aX12_signs 73 rfl) ?_
      refine pw_cf (pw_callV (Bs := [.int ((a2) + ((2 : Int32)))]) (rest := []) (aX12_signs 74 rfl) um_RX12_449 ujX12_sign wc_RX12_449.2.2.2.2 (by decide) (by decide) rfl rfl (fun d => rX12_sign hkb ((a2) + ((2 : Int32))) n sl SH FI FL FR hok) (fun v2 n2 sl2 SH2 FI2 FL2 FR2 _ hC => ?_))
      obtain ⟨rfl, hC⟩ := hC; cases hC
      show pw _ _ _ _ _ _ _ 153 _ [.int (fX12_sign ((a2) + ((2 : Int32))) SH FI FL FR)] _ _
      refine pw_bipush (v := (62 : Int32)) (aX12_signs 75 rfl) rfl ?_
      refine pw_icne (tgt := 164) (aX12_signs 76 rfl) (by decide) (fun b3 => ?_) (fun b3 => ?_)
      · skip
        refine pw_sipush (v := (263 : Int32)) (aX12_signs 77 rfl) rfl ?_
        refine pw_goto (tgt := 167) (aX12_signs 78 rfl) (by decide) ?_
        exact pw_Li (L2 := [(0, .ref (base + 121)), (1, .int (a1)), (2, .int (a2)), (3, .int (l3i)), (4, .int (l4i)), (5, .int (l5i))]) [0, 1, 2, 3, 4, 5] (rX12_signs_167 hkb a1 a2 ((263 : Int32)) (l3i) (l4i) (l5i) n sl SH FI FL FR hok  ) ⟨rfl, rfl, rfl, rfl, rfl, rfl, trivial⟩
      · skip
        refine pw_sipush (v := (262 : Int32)) (aX12_signs 79 rfl) rfl ?_
        exact pw_Li (L2 := [(0, .ref (base + 121)), (1, .int (a1)), (2, .int (a2)), (3, .int (l3i)), (4, .int (l4i)), (5, .int (l5i))]) [0, 1, 2, 3, 4, 5] (rX12_signs_167 hkb a1 a2 ((262 : Int32)) (l3i) (l4i) (l5i) n sl SH FI FL FR hok  ) ⟨rfl, rfl, rfl, rfl, rfl, rfl, trivial⟩
    · skip
      exact pw_Li (L2 := [(0, .ref (base + 121)), (1, .int (a1)), (2, .int (a2)), (3, .int (l3i)), (4, .int (l4i)), (5, .int (l5i))]) [0, 1, 2, 3, 4, 5] (rX12_signs_184 hkb a1 a2 (l4i) (l5i) (l3i) n sl SH FI FL FR hok  ) ⟨rfl, rfl, rfl, rfl, rfl, rfl, trivial⟩
  · skip
    exact pw_Li (L2 := [(0, .ref (base + 121)), (1, .int (a1)), (2, .int (a2)), (3, .int (l3i)), (4, .int (l4i)), (5, .int (l5i))]) [0, 1, 2, 3, 4, 5] (rX12_signs_184 hkb a1 a2 (l4i) (l5i) (l3i) n sl SH FI FL FR hok  ) ⟨rfl, rfl, rfl, rfl, rfl, rfl, trivial⟩
def RX12_signs_114  (a1 : Int32) (a2 : Int32) (l3i : Int32) (l4i : Int32) (l5i : Int32) (n sl : Nat) (SH : Nat → Nat × Nat) (FI : Nat → Nat → Int32) (FL : Nat → Nat → Int64) (FR : Nat → Nat → Option Nat) : Int32 → hS → Prop := (P_if ((a1).toInt = ((60 : Int32)).toInt) (P_if ((l3i).toInt = ((60 : Int32)).toInt) (RX12_signs_184  a1 a2 ((261 : Int32)) (l5i) n sl SH FI FL FR) (RX12_signs_134  a1 a2 (l3i) (l4i) (l5i) n sl SH FI FL FR)) (RX12_signs_134  a1 a2 (l3i) (l4i) (l5i) n sl SH FI FL FR))
set_option maxHeartbeats 4000000 in
set_option maxRecDepth 100000 in
theorem rX12_signs_114 {sk : xK} {base N d : Nat}  (hkb : x_kb sk base) (a1 : Int32) (a2 : Int32) (l3i : Int32) (l4i : Int32) (l5i : Int32)  (n sl : Nat) (SH : Nat → Nat × Nat) (FI : Nat → Nat → Int32) (FL : Nat → Nat → Int64) (FR : Nat → Nat → Option Nat) (hok : pk n SH FR)   : pw pj_I sk base N d none 213 114 [(0, .ref (base + 121)), (1, .int (a1)), (2, .int (a2)), (3, .int (l3i)), (4, .int (l4i)), (5, .int (l5i))] [] (n, sl, SH, FI, FL, FR) (RX12_signs_114  a1 a2 l3i l4i l5i n sl SH FI FL FR) := by
  unfold RX12_signs_114
  refine pw_iloadn (aX12_signs 55 rfl) rfl ?_
  refine pw_bipush (v := (60 : Int32)) (aX12_signs 56 rfl) rfl ?_
  refine pw_icne (tgt := 134) (aX12_signs 57 rfl) (by decide) (fun b0 => ?_) (fun b0 => ?_)
  · skip
    refine pw_iloadn (aX12_signs 58 rfl) rfl ?_
    refine pw_bipush (v := (60 : Int32)) (aX12_signs 59 rfl) rfl ?_
    refine pw_icne (tgt := 134) (aX12_signs 60 rfl) (by decide) (fun b1 => ?_) (fun b1 => ?_)
    · skip
      refine pw_sipush (v := (261 : Int32)) (aX12_signs 61 rfl) rfl ?_
      refine pw_istore (L2 := [(4, .int ((261 : Int32))), (0, .ref (base + 121)), (1, .int (a1)), (2, .int (a2)), (3, .int (l3i)), (5, .int (l5i))]) (aX12_signs 62 rfl) rfl ?_
      refine pw_goto (tgt := 184) (aX12_signs 63 rfl) (by decide) ?_
      exact pw_Li (L2 := [(0, .ref (base + 121)), (1, .int (a1)), (2, .int (a2)), (3, .int (l3i)), (4, .int ((261 : Int32))), (5, .int (l5i))]) [4, 0, 1, 2, 3, 5] (rX12_signs_184 hkb a1 a2 ((261 : Int32)) (l5i) (l3i) n sl SH FI FL FR hok  ) ⟨rfl, rfl, rfl, rfl, rfl, rfl, trivial⟩
    · skip
      exact pw_Li (L2 := [(0, .ref (base + 121)), (1, .int (a1)), (2, .int (a2)), (3, .int (l3i)), (4, .int (l4i)), (5, .int (l5i))]) [0, 1, 2, 3, 4, 5] (rX12_signs_134 hkb a1 a2 (l3i) (l4i) (l5i) n sl SH FI FL FR hok  ) ⟨rfl, rfl, rfl, rfl, rfl, rfl, trivial⟩
  · skip
    exact pw_Li (L2 := [(0, .ref (base + 121)), (1, .int (a1)), (2, .int (a2)), (3, .int (l3i)), (4, .int (l4i)), (5, .int (l5i))]) [0, 1, 2, 3, 4, 5] (rX12_signs_134 hkb a1 a2 (l3i) (l4i) (l5i) n sl SH FI FL FR hok  ) ⟨rfl, rfl, rfl, rfl, rfl, rfl, trivial⟩
def RX12_signs_94  (a1 : Int32) (a2 : Int32) (l3i : Int32) (l4i : Int32) (l5i : Int32) (n sl : Nat) (SH : Nat → Nat × Nat) (FI : Nat → Nat → Int32) (FL : Nat → Nat → Int64) (FR : Nat → Nat → Option Nat) : Int32 → hS → Prop := (P_if ((a1).toInt = ((62 : Int32)).toInt) (P_if ((l3i).toInt = ((61 : Int32)).toInt) (RX12_signs_184  a1 a2 ((260 : Int32)) (l5i) n sl SH FI FL FR) (RX12_signs_114  a1 a2 (l3i) (l4i) (l5i) n sl SH FI FL FR)) (RX12_signs_114  a1 a2 (l3i) (l4i) (l5i) n sl SH FI FL FR))
set_option maxHeartbeats 4000000 in
set_option maxRecDepth 100000 in
theorem rX12_signs_94 {sk : xK} {base N d : Nat}  (hkb : x_kb sk base) (a1 : Int32) (a2 : Int32) (l3i : Int32) (l4i : Int32) (l5i : Int32)  (n sl : Nat) (SH : Nat → Nat × Nat) (FI : Nat → Nat → Int32) (FL : Nat → Nat → Int64) (FR : Nat → Nat → Option Nat) (hok : pk n SH FR)   : pw pj_I sk base N d none 213 94 [(0, .ref (base + 121)), (1, .int (a1)), (2, .int (a2)), (3, .int (l3i)), (4, .int (l4i)), (5, .int (l5i))] [] (n, sl, SH, FI, FL, FR) (RX12_signs_94  a1 a2 l3i l4i l5i n sl SH FI FL FR) := by
  unfold RX12_signs_94
  refine pw_iloadn (aX12_signs 46 rfl) rfl ?_
  refine pw_bipush (v := (62 : Int32)) (aX12_signs 47 rfl) rfl ?_
  refine pw_icne (tgt := 114) (aX12_signs 48 rfl) (by decide) (fun b0 => ?_) (fun b0 => ?_)
  · skip
    refine pw_iloadn (aX12_signs 49 rfl) rfl ?_
    refine pw_bipush (v := (61 : Int32)) (aX12_signs 50 rfl) rfl ?_
    refine pw_icne (tgt := 114) (aX12_signs 51 rfl) (by decide) (fun b1 => ?_) (fun b1 => ?_)
    · skip
      refine pw_sipush (v := (260 : Int32)) (aX12_signs 52 rfl) rfl ?_
      refine pw_istore (L2 := [(4, .int ((260 : Int32))), (0, .ref (base + 121)), (1, .int (a1)), (2, .int (a2)), (3, .int (l3i)), (5, .int (l5i))]) (aX12_signs 53 rfl) rfl ?_
      refine pw_goto (tgt := 184) (aX12_signs 54 rfl) (by decide) ?_
      exact pw_Li (L2 := [(0, .ref (base + 121)), (1, .int (a1)), (2, .int (a2)), (3, .int (l3i)), (4, .int ((260 : Int32))), (5, .int (l5i))]) [4, 0, 1, 2, 3, 5] (rX12_signs_184 hkb a1 a2 ((260 : Int32)) (l5i) (l3i) n sl SH FI FL FR hok  ) ⟨rfl, rfl, rfl, rfl, rfl, rfl, trivial⟩
    · skip
      exact pw_Li (L2 := [(0, .ref (base + 121)), (1, .int (a1)), (2, .int (a2)), (3, .int (l3i)), (4, .int (l4i)), (5, .int (l5i))]) [0, 1, 2, 3, 4, 5] (rX12_signs_114 hkb a1 a2 (l3i) (l4i) (l5i) n sl SH FI FL FR hok  ) ⟨rfl, rfl, rfl, rfl, rfl, rfl, trivial⟩
  · skip
    exact pw_Li (L2 := [(0, .ref (base + 121)), (1, .int (a1)), (2, .int (a2)), (3, .int (l3i)), (4, .int (l4i)), (5, .int (l5i))]) [0, 1, 2, 3, 4, 5] (rX12_signs_114 hkb a1 a2 (l3i) (l4i) (l5i) n sl SH FI FL FR hok  ) ⟨rfl, rfl, rfl, rfl, rfl, rfl, trivial⟩
def RX12_signs_74  (a1 : Int32) (a2 : Int32) (l3i : Int32) (l4i : Int32) (l5i : Int32) (n sl : Nat) (SH : Nat → Nat × Nat) (FI : Nat → Nat → Int32) (FL : Nat → Nat → Int64) (FR : Nat → Nat → Option Nat) : Int32 → hS → Prop := (P_if ((a1).toInt = ((60 : Int32)).toInt) (P_if ((l3i).toInt = ((61 : Int32)).toInt) (RX12_signs_184  a1 a2 ((259 : Int32)) (l5i) n sl SH FI FL FR) (RX12_signs_94  a1 a2 (l3i) (l4i) (l5i) n sl SH FI FL FR)) (RX12_signs_94  a1 a2 (l3i) (l4i) (l5i) n sl SH FI FL FR))
set_option maxHeartbeats 4000000 in
set_option maxRecDepth 100000 in
theorem rX12_signs_74 {sk : xK} {base N d : Nat}  (hkb : x_kb sk base) (a1 : Int32) (a2 : Int32) (l3i : Int32) (l4i : Int32) (l5i : Int32)  (n sl : Nat) (SH : Nat → Nat × Nat) (FI : Nat → Nat → Int32) (FL : Nat → Nat → Int64) (FR : Nat → Nat → Option Nat) (hok : pk n SH FR)   : pw pj_I sk base N d none 213 74 [(0, .ref (base + 121)), (1, .int (a1)), (2, .int (a2)), (3, .int (l3i)), (4, .int (l4i)), (5, .int (l5i))] [] (n, sl, SH, FI, FL, FR) (RX12_signs_74  a1 a2 l3i l4i l5i n sl SH FI FL FR) := by
  unfold RX12_signs_74
  refine pw_iloadn (aX12_signs 37 rfl) rfl ?_
  refine pw_bipush (v := (60 : Int32)) (aX12_signs 38 rfl) rfl ?_
  refine pw_icne (tgt := 94) (aX12_signs 39 rfl) (by decide) (fun b0 => ?_) (fun b0 => ?_)
  · skip
    refine pw_iloadn (aX12_signs 40 rfl) rfl ?_
    refine pw_bipush (v := (61 : Int32)) (aX12_signs 41 rfl) rfl ?_
    refine pw_icne (tgt := 94) (aX12_signs 42 rfl) (by decide) (fun b1 => ?_) (fun b1 => ?_)
    · skip
      refine pw_sipush (v := (259 : Int32)) (aX12_signs 43 rfl) rfl ?_
      refine pw_istore (L2 := [(4, .int ((259 : Int32))), (0, .ref (base + 121)), (1, .int (a1)), (2, .int (a2)), (3, .int (l3i)), (5, .int (l5i))]) (aX12_signs 44 rfl) rfl ?_
      refine pw_goto (tgt := 184) (aX12_signs 45 rfl) (by decide) ?_
      exact pw_Li (L2 := [(0, .ref (base + 121)), (1, .int (a1)), (2, .int (a2)), (3, .int (l3i)), (4, .int ((259 : Int32))), (5, .int (l5i))]) [4, 0, 1, 2, 3, 5] (rX12_signs_184 hkb a1 a2 ((259 : Int32)) (l5i) (l3i) n sl SH FI FL FR hok  ) ⟨rfl, rfl, rfl, rfl, rfl, rfl, trivial⟩
    · skip
      exact pw_Li (L2 := [(0, .ref (base + 121)), (1, .int (a1)), (2, .int (a2)), (3, .int (l3i)), (4, .int (l4i)), (5, .int (l5i))]) [0, 1, 2, 3, 4, 5] (rX12_signs_94 hkb a1 a2 (l3i) (l4i) (l5i) n sl SH FI FL FR hok  ) ⟨rfl, rfl, rfl, rfl, rfl, rfl, trivial⟩
  · skip
    exact pw_Li (L2 := [(0, .ref (base + 121)), (1, .int (a1)), (2, .int (a2)), (3, .int (l3i)), (4, .int (l4i)), (5, .int (l5i))]) [0, 1, 2, 3, 4, 5] (rX12_signs_94 hkb a1 a2 (l3i) (l4i) (l5i) n sl SH FI FL FR hok  ) ⟨rfl, rfl, rfl, rfl, rfl, rfl, trivial⟩
def RX12_signs_54  (a1 : Int32) (a2 : Int32) (l3i : Int32) (l4i : Int32) (l5i : Int32) (n sl : Nat) (SH : Nat → Nat × Nat) (FI : Nat → Nat → Int32) (FL : Nat → Nat → Int64) (FR : Nat → Nat → Option Nat) : Int32 → hS → Prop := (P_if ((a1).toInt = ((33 : Int32)).toInt) (P_if ((l3i).toInt = ((61 : Int32)).toInt) (RX12_signs_184  a1 a2 ((258 : Int32)) (l5i) n sl SH FI FL FR) (RX12_signs_74  a1 a2 (l3i) (l4i) (l5i) n sl SH FI FL FR)) (RX12_signs_74  a1 a2 (l3i) (l4i) (l5i) n sl SH FI FL FR))
set_option maxHeartbeats 4000000 in
set_option maxRecDepth 100000 in
theorem rX12_signs_54 {sk : xK} {base N d : Nat}  (hkb : x_kb sk base) (a1 : Int32) (a2 : Int32) (l3i : Int32) (l4i : Int32) (l5i : Int32)  (n sl : Nat) (SH : Nat → Nat × Nat) (FI : Nat → Nat → Int32) (FL : Nat → Nat → Int64) (FR : Nat → Nat → Option Nat) (hok : pk n SH FR)   : pw pj_I sk base N d none 213 54 [(0, .ref (base + 121)), (1, .int (a1)), (2, .int (a2)), (3, .int (l3i)), (4, .int (l4i)), (5, .int (l5i))] [] (n, sl, SH, FI, FL, FR) (RX12_signs_54  a1 a2 l3i l4i l5i n sl SH FI FL FR) := by
  unfold RX12_signs_54
  refine pw_iloadn (aX12_signs 28 rfl) rfl ?_
  refine pw_bipush (v := (33 : Int32)) (aX12_signs 29 rfl) rfl ?_
  refine pw_icne (tgt := 74) (aX12_signs 30 rfl) (by decide) (fun b0 => ?_) (fun b0 => ?_)
  · skip
    refine pw_iloadn (aX12_signs 31 rfl) rfl ?_
    refine pw_bipush (v := (61 : Int32)) (aX12_signs 32 rfl) rfl ?_
    refine pw_icne (tgt := 74) (aX12_signs 33 rfl) (by decide) (fun b1 => ?_) (fun b1 => ?_)
    · skip
      refine pw_sipush (v := (258 : Int32)) (aX12_signs 34 rfl) rfl ?_
      refine pw_istore (L2 := [(4, .int ((258 : Int32))), (0, .ref (base + 121)), (1, .int (a1)), (2, .int (a2)), (3, .int (l3i)), (5, .int (l5i))]) (aX12_signs 35 rfl) rfl ?_
      refine pw_goto (tgt := 184) (aX12_signs 36 rfl) (by decide) ?_
      exact pw_Li (L2 := [(0, .ref (base + 121)), (1, .int (a1)), (2, .int (a2)), (3, .int (l3i)), (4, .int ((258 : Int32))), (5, .int (l5i))]) [4, 0, 1, 2, 3, 5] (rX12_signs_184 hkb a1 a2 ((258 : Int32)) (l5i) (l3i) n sl SH FI FL FR hok  ) ⟨rfl, rfl, rfl, rfl, rfl, rfl, trivial⟩
    · skip
      exact pw_Li (L2 := [(0, .ref (base + 121)), (1, .int (a1)), (2, .int (a2)), (3, .int (l3i)), (4, .int (l4i)), (5, .int (l5i))]) [0, 1, 2, 3, 4, 5] (rX12_signs_74 hkb a1 a2 (l3i) (l4i) (l5i) n sl SH FI FL FR hok  ) ⟨rfl, rfl, rfl, rfl, rfl, rfl, trivial⟩
  · skip
    exact pw_Li (L2 := [(0, .ref (base + 121)), (1, .int (a1)), (2, .int (a2)), (3, .int (l3i)), (4, .int (l4i)), (5, .int (l5i))]) [0, 1, 2, 3, 4, 5] (rX12_signs_74 hkb a1 a2 (l3i) (l4i) (l5i) n sl SH FI FL FR hok  ) ⟨rfl, rfl, rfl, rfl, rfl, rfl, trivial⟩
def RX12_signs_34  (a1 : Int32) (a2 : Int32) (l3i : Int32) (l4i : Int32) (l5i : Int32) (n sl : Nat) (SH : Nat → Nat × Nat) (FI : Nat → Nat → Int32) (FL : Nat → Nat → Int64) (FR : Nat → Nat → Option Nat) : Int32 → hS → Prop := (P_if ((a1).toInt = ((61 : Int32)).toInt) (P_if ((l3i).toInt = ((61 : Int32)).toInt) (RX12_signs_184  a1 a2 ((257 : Int32)) (l5i) n sl SH FI FL FR) (RX12_signs_54  a1 a2 (l3i) (l4i) (l5i) n sl SH FI FL FR)) (RX12_signs_54  a1 a2 (l3i) (l4i) (l5i) n sl SH FI FL FR))
set_option maxHeartbeats 4000000 in
set_option maxRecDepth 100000 in
theorem rX12_signs_34 {sk : xK} {base N d : Nat}  (hkb : x_kb sk base) (a1 : Int32) (a2 : Int32) (l3i : Int32) (l4i : Int32) (l5i : Int32)  (n sl : Nat) (SH : Nat → Nat × Nat) (FI : Nat → Nat → Int32) (FL : Nat → Nat → Int64) (FR : Nat → Nat → Option Nat) (hok : pk n SH FR)   : pw pj_I sk base N d none 213 34 [(0, .ref (base + 121)), (1, .int (a1)), (2, .int (a2)), (3, .int (l3i)), (4, .int (l4i)), (5, .int (l5i))] [] (n, sl, SH, FI, FL, FR) (RX12_signs_34  a1 a2 l3i l4i l5i n sl SH FI FL FR) := by
  unfold RX12_signs_34
  refine pw_iloadn (aX12_signs 19 rfl) rfl ?_
  refine pw_bipush (v := (61 : Int32)) (aX12_signs 20 rfl) rfl ?_
  refine pw_icne (tgt := 54) (aX12_signs 21 rfl) (by decide) (fun b0 => ?_) (fun b0 => ?_)
  · skip
    refine pw_iloadn (aX12_signs 22 rfl) rfl ?_
    refine pw_bipush (v := (61 : Int32)) (aX12_signs 23 rfl) rfl ?_
    refine pw_icne (tgt := 54) (aX12_signs 24 rfl) (by decide) (fun b1 => ?_) (fun b1 => ?_)
    · skip
      refine pw_sipush (v := (257 : Int32)) (aX12_signs 25 rfl) rfl ?_
      refine pw_istore (L2 := [(4, .int ((257 : Int32))), (0, .ref (base + 121)), (1, .int (a1)), (2, .int (a2)), (3, .int (l3i)), (5, .int (l5i))]) (aX12_signs 26 rfl) rfl ?_
      refine pw_goto (tgt := 184) (aX12_signs 27 rfl) (by decide) ?_
      exact pw_Li (L2 := [(0, .ref (base + 121)), (1, .int (a1)), (2, .int (a2)), (3, .int (l3i)), (4, .int ((257 : Int32))), (5, .int (l5i))]) [4, 0, 1, 2, 3, 5] (rX12_signs_184 hkb a1 a2 ((257 : Int32)) (l5i) (l3i) n sl SH FI FL FR hok  ) ⟨rfl, rfl, rfl, rfl, rfl, rfl, trivial⟩
    · skip
      exact pw_Li (L2 := [(0, .ref (base + 121)), (1, .int (a1)), (2, .int (a2)), (3, .int (l3i)), (4, .int (l4i)), (5, .int (l5i))]) [0, 1, 2, 3, 4, 5] (rX12_signs_54 hkb a1 a2 (l3i) (l4i) (l5i) n sl SH FI FL FR hok  ) ⟨rfl, rfl, rfl, rfl, rfl, rfl, trivial⟩
  · skip
    exact pw_Li (L2 := [(0, .ref (base + 121)), (1, .int (a1)), (2, .int (a2)), (3, .int (l3i)), (4, .int (l4i)), (5, .int (l5i))]) [0, 1, 2, 3, 4, 5] (rX12_signs_54 hkb a1 a2 (l3i) (l4i) (l5i) n sl SH FI FL FR hok  ) ⟨rfl, rfl, rfl, rfl, rfl, rfl, trivial⟩
def RX12_signs (a1 : Int32) (a2 : Int32) (n sl : Nat) (SH : Nat → Nat × Nat) (FI : Nat → Nat → Int32) (FL : Nat → Nat → Int64) (FR : Nat → Nat → Option Nat) : Int32 → hS → Prop := (P_if ((a1).toInt = ((46 : Int32)).toInt) (P_if ((fX12_sign ((a2) + ((1 : Int32))) SH FI FL FR).toInt = ((46 : Int32)).toInt) (RX12_signs_184  a1 a2 ((256 : Int32)) ((2 : Int32)) n sl SH FI FL FR) (RX12_signs_34  a1 a2 (fX12_sign ((a2) + ((1 : Int32))) SH FI FL FR) ((-1 : Int32)) ((2 : Int32)) n sl SH FI FL FR)) (RX12_signs_34  a1 a2 (fX12_sign ((a2) + ((1 : Int32))) SH FI FL FR) ((-1 : Int32)) ((2 : Int32)) n sl SH FI FL FR))
set_option maxHeartbeats 4000000 in
set_option maxRecDepth 100000 in
theorem rX12_signs {sk : xK} {base N d : Nat} (hkb : x_kb sk base) (a1 : Int32) (a2 : Int32) (n sl : Nat) (SH : Nat → Nat × Nat) (FI : Nat → Nat → Int32) (FL : Nat → Nat → Int64) (FR : Nat → Nat → Option Nat) (hok : pk n SH FR)  : pw pj_I sk base N d none 213 0 [(0, .ref (base + 121)), (1, .int (a1)), (2, .int (a2))] [] (n, sl, SH, FI, FL, FR) (RX12_signs a1 a2 n sl SH FI FL FR) := by
  unfold RX12_signs
  refine pw_aloadn (aX12_signs 0 rfl) rfl ?_
  refine pw_iloadn (aX12_signs 1 rfl) rfl ?_
  refine pw_iconst (v := (1 : Int32)) (aX12_signs 2 rfl) rfl ?_
  refine pw_iadd (aX12_signs 3 rfl) ?_
  refine pw_cf (pw_callV (Bs := [.int ((a2) + ((1 : Int32)))]) (rest := []) (aX12_signs 4 rfl) um_RX12_449 ujX12_sign wc_RX12_449.2.2.2.2 (by decide) (by decide) rfl rfl (fun d => rX12_sign hkb ((a2) + ((1 : Int32))) n sl SH FI FL FR hok) (fun v0 n0 sl0 SH0 FI0 FL0 FR0 _ hC => ?_))
  obtain ⟨rfl, hC⟩ := hC; cases hC
  show pw _ _ _ _ _ _ _ 7 _ [.int (fX12_sign ((a2) + ((1 : Int32))) SH FI FL FR)] _ _
  refine pw_istoren (L2 := [(3, .int (fX12_sign ((a2) + ((1 : Int32))) SH FI FL FR)), (0, .ref (base + 121)), (1, .int (a1)), (2, .int (a2))]) (aX12_signs 5 rfl) rfl ?_
  refine pw_iconst (v := (-1 : Int32)) (aX12_signs 6 rfl) rfl ?_
  refine pw_istore (L2 := [(4, .int ((-1 : Int32))), (3, .int (fX12_sign ((a2) + ((1 : Int32))) SH FI FL FR)), (0, .ref (base + 121)), (1, .int (a1)), (2, .int (a2))]) (aX12_signs 7 rfl) rfl ?_
  refine pw_iconst (v := (2 : Int32)) (aX12_signs 8 rfl) rfl ?_
  refine pw_istore (L2 := [(5, .int ((2 : Int32))), (4, .int ((-1 : Int32))), (3, .int (fX12_sign ((a2) + ((1 : Int32))) SH FI FL FR)), (0, .ref (base + 121)), (1, .int (a1)), (2, .int (a2))]) (aX12_signs 9 rfl) rfl ?_
  refine pw_iloadn (aX12_signs 10 rfl) rfl ?_
  refine pw_bipush (v := (46 : Int32)) (aX12_signs 11 rfl) rfl ?_
  refine pw_icne (tgt := 34) (aX12_signs 12 rfl) (by decide) (fun b1 => ?_) (fun b1 => ?_)
  · skip
    refine pw_iloadn (aX12_signs 13 rfl) rfl ?_
    refine pw_bipush (v := (46 : Int32)) (aX12_signs 14 rfl) rfl ?_
    refine pw_icne (tgt := 34) (aX12_signs 15 rfl) (by decide) (fun b2 => ?_) (fun b2 => ?_)
    · skip
      refine pw_sipush (v := (256 : Int32)) (aX12_signs 16 rfl) rfl ?_
      refine pw_istore (L2 := [(4, .int ((256 : Int32))), (5, .int ((2 : Int32))), (3, .int (fX12_sign ((a2) + ((1 : Int32))) SH FI FL FR)), (0, .ref (base + 121)), (1, .int (a1)), (2, .int (a2))]) (aX12_signs 17 rfl) rfl ?_
      refine pw_goto (tgt := 184) (aX12_signs 18 rfl) (by decide) ?_
      exact pw_Li (L2 := [(0, .ref (base + 121)), (1, .int (a1)), (2, .int (a2)), (3, .int (fX12_sign ((a2) + ((1 : Int32))) SH FI FL FR)), (4, .int ((256 : Int32))), (5, .int ((2 : Int32)))]) [4, 5, 3, 0, 1, 2] (rX12_signs_184 hkb a1 a2 ((256 : Int32)) ((2 : Int32)) (fX12_sign ((a2) + ((1 : Int32))) SH FI FL FR) n sl SH FI FL FR hok  ) ⟨rfl, rfl, rfl, rfl, rfl, rfl, trivial⟩
    · skip
      exact pw_Li (L2 := [(0, .ref (base + 121)), (1, .int (a1)), (2, .int (a2)), (3, .int (fX12_sign ((a2) + ((1 : Int32))) SH FI FL FR)), (4, .int ((-1 : Int32))), (5, .int ((2 : Int32)))]) [5, 4, 3, 0, 1, 2] (rX12_signs_34 hkb a1 a2 (fX12_sign ((a2) + ((1 : Int32))) SH FI FL FR) ((-1 : Int32)) ((2 : Int32)) n sl SH FI FL FR hok  ) ⟨rfl, rfl, rfl, rfl, rfl, rfl, trivial⟩
  · skip
    exact pw_Li (L2 := [(0, .ref (base + 121)), (1, .int (a1)), (2, .int (a2)), (3, .int (fX12_sign ((a2) + ((1 : Int32))) SH FI FL FR)), (4, .int ((-1 : Int32))), (5, .int ((2 : Int32)))]) [5, 4, 3, 0, 1, 2] (rX12_signs_34 hkb a1 a2 (fX12_sign ((a2) + ((1 : Int32))) SH FI FL FR) ((-1 : Int32)) ((2 : Int32)) n sl SH FI FL FR hok  ) ⟨rfl, rfl, rfl, rfl, rfl, rfl, trivial⟩
def RX12_tokens_363 (K7 : Int32 → Nat → Nat → (Nat → Nat × Nat) → (Nat → Nat → Int32) → (Nat → Nat → Int64) → (Nat → Nat → Option Nat) → Unit → hS → Prop)  (l1i : Int32) (n sl : Nat) (SH : Nat → Nat × Nat) (FI : Nat → Nat → Int32) (FL : Nat → Nat → Int64) (FR : Nat → Nat → Option Nat) : Unit → hS → Prop := (K7 (l1i) n sl SH FI FL FR)
set_option maxHeartbeats 4000000 in
set_option maxRecDepth 100000 in
theorem rX12_tokens_363 {sk : xK} {base N d : Nat} {K7 : Int32 → Nat → Nat → (Nat → Nat × Nat) → (Nat → Nat → Int32) → (Nat → Nat → Int64) → (Nat → Nat → Option Nat) → Unit → hS → Prop} (hkb : x_kb sk base)  (l1i : Int32) (l2i : Int32) (l3i : Int32) (l4i : Int32) (l4l : Int64) (l5i : Int32) (l6i : Int32) (n sl : Nat) (SH : Nat → Nat × Nat) (FI : Nat → Nat → Int32) (FL : Nat → Nat → Int64) (FR : Nat → Nat → Option Nat) (hok : pk n SH FR)  (hK7 : ∀ (l1i : Int32) (l2i : Int32) (l3i : Int32) (l4i : Int32) (l4l : Int64) (l5i : Int32) (l6i : Int32) (n sl : Nat) (SH : Nat → Nat × Nat) (FI : Nat → Nat → Int32) (FL : Nat → Nat → Int64) (FR : Nat → Nat → Option Nat), pk n SH FR → pw pj_V sk base N d none 212 7 [(0, .ref (base + 121)), (1, .int (l1i)), (2, .int (l2i)), (3, .int (l3i)), (4, .int (l4i)), (4, .long (l4l)), (5, .int (l5i)), (6, .int (l6i))] [] (n, sl, SH, FI, FL, FR) (K7 l1i n sl SH FI FL FR)) : pw pj_V sk base N d none 212 363 [(0, .ref (base + 121)), (1, .int (l1i)), (2, .int (l2i)), (3, .int (l3i)), (4, .int (l4i)), (4, .long (l4l)), (5, .int (l5i)), (6, .int (l6i))] [] (n, sl, SH, FI, FL, FR) (RX12_tokens_363 K7  l1i n sl SH FI FL FR) := by
  unfold RX12_tokens_363
  refine pw_goto (tgt := 7) (aX12_tokens 205 rfl) (by decide) ?_
  exact pw_Li (L2 := [(0, .ref (base + 121)), (1, .int (l1i)), (2, .int (l2i)), (3, .int (l3i)), (4, .int (l4i)), (4, .long (l4l)), (5, .int (l5i)), (6, .int (l6i))]) [0, 1, 2, 3, 4, 5, 6, 7] (hK7 (l1i) (l2i) (l3i) (l4i) (l4l) (l5i) (l6i) n sl SH FI FL FR hok) ⟨rfl, rfl, rfl, rfl, rfl, rfl, rfl, rfl, trivial⟩
def RX12_tokens_35 (K7 : Int32 → Nat → Nat → (Nat → Nat × Nat) → (Nat → Nat → Int32) → (Nat → Nat → Int64) → (Nat → Nat → Option Nat) → Unit → hS → Prop)  (l1i : Int32) (n sl : Nat) (SH : Nat → Nat × Nat) (FI : Nat → Nat → Int32) (FL : Nat → Nat → Int64) (FR : Nat → Nat → Option Nat) : Unit → hS → Prop := (RX12_tokens_363 K7  ((l1i) + ((1 : Int32))) n sl SH FI FL FR)
set_option maxHeartbeats 4000000 in
set_option maxRecDepth 100000 in
theorem rX12_tokens_35 {sk : xK} {base N d : Nat} {K7 : Int32 → Nat → Nat → (Nat → Nat × Nat) → (Nat → Nat → Int32) → (Nat → Nat → Int64) → (Nat → Nat → Option Nat) → Unit → hS → Prop} (hkb : x_kb sk base)  (l1i : Int32) (l2i : Int32) (l3i : Int32) (l4i : Int32) (l4l : Int64) (l5i : Int32) (l6i : Int32) (n sl : Nat) (SH : Nat → Nat × Nat) (FI : Nat → Nat → Int32) (FL : Nat → Nat → Int64) (FR : Nat → Nat → Option Nat) (hok : pk n SH FR)  (hK7 : ∀ (l1i : Int32) (l2i : Int32) (l3i : Int32) (l4i : Int32) (l4l : Int64) (l5i : Int32) (l6i : Int32) (n sl : Nat) (SH : Nat → Nat × Nat) (FI : Nat → Nat → Int32) (FL : Nat → Nat → Int64) (FR : Nat → Nat → Option Nat), pk n SH FR → pw pj_V sk base N d none 212 7 [(0, .ref (base + 121)), (1, .int (l1i)), (2, .int (l2i)), (3, .int (l3i)), (4, .int (l4i)), (4, .long (l4l)), (5, .int (l5i)), (6, .int (l6i))] [] (n, sl, SH, FI, FL, FR) (K7 l1i n sl SH FI FL FR)) : pw pj_V sk base N d none 212 35 [(0, .ref (base + 121)), (1, .int (l1i)), (2, .int (l2i)), (3, .int (l3i)), (4, .int (l4i)), (4, .long (l4l)), (5, .int (l5i)), (6, .int (l6i))] [] (n, sl, SH, FI, FL, FR) (RX12_tokens_35 K7  l1i n sl SH FI FL FR) := by
  unfold RX12_tokens_35
  refine pw_iloadn (aX12_tokens 21 rfl) rfl ?_
  refine pw_iconst (v := (1 : Int32)) (aX12_tokens 22 rfl) rfl ?_
  refine pw_iadd (aX12_tokens 23 rfl) ?_
  refine pw_istoren (L2 := [(1, .int ((l1i) + ((1 : Int32)))), (0, .ref (base + 121)), (2, .int (l2i)), (3, .int (l3i)), (4, .int (l4i)), (4, .long (l4l)), (5, .int (l5i)), (6, .int (l6i))]) (aX12_tokens 24 rfl) rfl ?_
  refine pw_goto (tgt := 363) (aX12_tokens 25 rfl) (by decide) ?_
  exact pw_Li (L2 := [(0, .ref (base + 121)), (1, .int ((l1i) + ((1 : Int32)))), (2, .int (l2i)), (3, .int (l3i)), (4, .int (l4i)), (4, .long (l4l)), (5, .int (l5i)), (6, .int (l6i))]) [1, 0, 2, 3, 4, 5, 6, 7] (rX12_tokens_363 hkb  ((l1i) + ((1 : Int32))) (l2i) (l3i) (l4i) (l4l) (l5i) (l6i) n sl SH FI FL FR hok  hK7) ⟨rfl, rfl, rfl, rfl, rfl, rfl, rfl, rfl, trivial⟩
def RX12_tokens_349 (K7 : Int32 → Nat → Nat → (Nat → Nat × Nat) → (Nat → Nat → Int32) → (Nat → Nat → Int64) → (Nat → Nat → Option Nat) → Unit → hS → Prop)  (s0i : Int32) (s1i : Int32) (n sl : Nat) (SH : Nat → Nat × Nat) (FI : Nat → Nat → Int32) (FL : Nat → Nat → Int64) (FR : Nat → Nat → Option Nat) : Unit → hS → Prop := (RX12_tokens_363 K7  ((s1i) + (s0i)) n sl SH FI FL FR)
set_option maxHeartbeats 4000000 in
set_option maxRecDepth 100000 in
theorem rX12_tokens_349 {sk : xK} {base N d : Nat} {K7 : Int32 → Nat → Nat → (Nat → Nat × Nat) → (Nat → Nat → Int32) → (Nat → Nat → Int64) → (Nat → Nat → Option Nat) → Unit → hS → Prop} (hkb : x_kb sk base)  (s0i : Int32) (s1i : Int32) (l1i : Int32) (l2i : Int32) (l3i : Int32) (l4i : Int32) (l5i : Int32) (l6i : Int32) (n sl : Nat) (SH : Nat → Nat × Nat) (FI : Nat → Nat → Int32) (FL : Nat → Nat → Int64) (FR : Nat → Nat → Option Nat) (hok : pk n SH FR)  (hK7 : ∀ (l1i : Int32) (l2i : Int32) (l3i : Int32) (l4i : Int32) (l4l : Int64) (l5i : Int32) (l6i : Int32) (n sl : Nat) (SH : Nat → Nat × Nat) (FI : Nat → Nat → Int32) (FL : Nat → Nat → Int64) (FR : Nat → Nat → Option Nat), pk n SH FR → pw pj_V sk base N d none 212 7 [(0, .ref (base + 121)), (1, .int (l1i)), (2, .int (l2i)), (3, .int (l3i)), (4, .int (l4i)), (4, .long (l4l)), (5, .int (l5i)), (6, .int (l6i))] [] (n, sl, SH, FI, FL, FR) (K7 l1i n sl SH FI FL FR)) : pw pj_V sk base N d none 212 349 [(0, .ref (base + 121)), (1, .int (l1i)), (2, .int (l2i)), (3, .int (l3i)), (4, .int (l4i)), (5, .int (l5i)), (6, .int (l6i))] [.int (s0i), .int (s1i)] (n, sl, SH, FI, FL, FR) (RX12_tokens_349 K7  s0i s1i n sl SH FI FL FR) := by
  unfold RX12_tokens_349
  refine pw_iadd (aX12_tokens 195 rfl) ?_
  refine pw_istoren (L2 := [(1, .int ((s1i) + (s0i))), (0, .ref (base + 121)), (2, .int (l2i)), (3, .int (l3i)), (4, .int (l4i)), (5, .int (l5i)), (6, .int (l6i))]) (aX12_tokens 196 rfl) rfl ?_
  refine pw_goto (tgt := 363) (aX12_tokens 197 rfl) (by decide) ?_
  exact pw_Li (L2 := [(0, .ref (base + 121)), (1, .int ((s1i) + (s0i))), (2, .int (l2i)), (3, .int (l3i)), (4, .int (l4i)), (4, .long 0), (5, .int (l5i)), (6, .int (l6i))]) [1, 0, 2, 3, 4, 6, 7] (rX12_tokens_363 hkb  ((s1i) + (s0i)) (l2i) (l3i) (l4i) 0 (l5i) (l6i) n sl SH FI FL FR hok  hK7) ⟨rfl, rfl, rfl, rfl, rfl, rfl, rfl, trivial⟩
def RX12_tokens_328 (K7 : Int32 → Nat → Nat → (Nat → Nat × Nat) → (Nat → Nat → Int32) → (Nat → Nat → Int64) → (Nat → Nat → Option Nat) → Unit → hS → Prop)  (l1i : Int32) (l3i : Int32) (l4i : Int32) (l5i : Int32) (s0i : Int32) (n sl : Nat) (SH : Nat → Nat × Nat) (FI : Nat → Nat → Int32) (FL : Nat → Nat → Int64) (FR : Nat → Nat → Option Nat) : Unit → hS → Prop := (P_bi (RX12_token (s0i) (((l4i) - ((48 : Int32))).toInt64) (l3i) n sl SH FI FL FR) (fun v0 n0 sl0 SH0 FI0 FL0 FR0 => (P_if ((l5i).toInt = 0) (RX12_tokens_349 K7  ((1 : Int32)) (l1i) n0 sl0 SH0 FI0 FL0 FR0) (RX12_tokens_349 K7  ((2 : Int32)) (l1i) n0 sl0 SH0 FI0 FL0 FR0))))
set_option maxHeartbeats 4000000 in
set_option maxRecDepth 100000 in
theorem rX12_tokens_328 {sk : xK} {base N d : Nat} {K7 : Int32 → Nat → Nat → (Nat → Nat × Nat) → (Nat → Nat → Int32) → (Nat → Nat → Int64) → (Nat → Nat → Option Nat) → Unit → hS → Prop} (hkb : x_kb sk base)  (l1i : Int32) (l3i : Int32) (l4i : Int32) (l5i : Int32) (s0i : Int32) (l2i : Int32) (l6i : Int32) (n sl : Nat) (SH : Nat → Nat × Nat) (FI : Nat → Nat → Int32) (FL : Nat → Nat → Int64) (FR : Nat → Nat → Option Nat) (hok : pk n SH FR)  (hK7 : ∀ (l1i : Int32) (l2i : Int32) (l3i : Int32) (l4i : Int32) (l4l : Int64) (l5i : Int32) (l6i : Int32) (n sl : Nat) (SH : Nat → Nat × Nat) (FI : Nat → Nat → Int32) (FL : Nat → Nat → Int64) (FR : Nat → Nat → Option Nat), pk n SH FR → pw pj_V sk base N d none 212 7 [(0, .ref (base + 121)), (1, .int (l1i)), (2, .int (l2i)), (3, .int (l3i)), (4, .int (l4i)), (4, .long (l4l)), (5, .int (l5i)), (6, .int (l6i))] [] (n, sl, SH, FI, FL, FR) (K7 l1i n sl SH FI FL FR)) : pw pj_V sk base N d none 212 328 [(0, .ref (base + 121)), (1, .int (l1i)), (2, .int (l2i)), (3, .int (l3i)), (4, .int (l4i)), (5, .int (l5i)), (6, .int (l6i))] [.int (s0i), .ref (base + 121)] (n, sl, SH, FI, FL, FR) (RX12_tokens_328 K7  l1i l3i l4i l5i s0i n sl SH FI FL FR) := by
  unfold RX12_tokens_328
  refine pw_iload (aX12_tokens 183 rfl) rfl ?_
  refine pw_bipush (v := (48 : Int32)) (aX12_tokens 184 rfl) rfl ?_
  refine pw_isub (aX12_tokens 185 rfl) ?_
  refine pw_i2l (aX12_tokens 186 rfl) ?_
  refine pw_iloadn (aX12_tokens 187 rfl) rfl ?_
  refine pw_callV (Bs := [.int (s0i), .long (((l4i) - ((48 : Int32))).toInt64), .int (l3i)]) (rest := []) (aX12_tokens 188 rfl) um_RX12_457 ujX12_token wc_RX12_457.2.2.2.2 (by decide) (by decide) rfl rfl (fun d => rX12_token hkb (s0i) (((l4i) - ((48 : Int32))).toInt64) (l3i) n sl SH FI FL FR hok) (fun v0 n0 sl0 SH0 FI0 FL0 FR0 hok0 _ => ?_)
  show pw _ _ _ _ _ _ _ 338 _ [] _ _
  refine pw_iloadn (aX12_tokens 189 rfl) rfl ?_
  refine pw_iload (aX12_tokens 190 rfl) rfl ?_
  refine pw_ifeq (tgt := 348) (aX12_tokens 191 rfl) (by decide) (fun b1 => ?_) (fun b1 => ?_)
  · skip
    refine pw_iconst (v := (1 : Int32)) (aX12_tokens 194 rfl) rfl ?_
    exact pw_Li (L2 := [(0, .ref (base + 121)), (1, .int (l1i)), (2, .int (l2i)), (3, .int (l3i)), (4, .int (l4i)), (5, .int (l5i)), (6, .int (l6i))]) [0, 1, 2, 3, 4, 5, 6] (rX12_tokens_349 hkb  ((1 : Int32)) (l1i) (l1i) (l2i) (l3i) (l4i) (l5i) (l6i) n0 sl0 SH0 FI0 FL0 FR0 hok0  hK7) ⟨rfl, rfl, rfl, rfl, rfl, rfl, rfl, trivial⟩
  · skip
    refine pw_iconst (v := (2 : Int32)) (aX12_tokens 192 rfl) rfl ?_
    refine pw_goto (tgt := 349) (aX12_tokens 193 rfl) (by decide) ?_
    exact pw_Li (L2 := [(0, .ref (base + 121)), (1, .int (l1i)), (2, .int (l2i)), (3, .int (l3i)), (4, .int (l4i)), (5, .int (l5i)), (6, .int (l6i))]) [0, 1, 2, 3, 4, 5, 6] (rX12_tokens_349 hkb  ((2 : Int32)) (l1i) (l1i) (l2i) (l3i) (l4i) (l5i) (l6i) n0 sl0 SH0 FI0 FL0 FR0 hok0  hK7) ⟨rfl, rfl, rfl, rfl, rfl, rfl, rfl, trivial⟩
def RX12_tokens_314 (K7 : Int32 → Nat → Nat → (Nat → Nat × Nat) → (Nat → Nat → Int32) → (Nat → Nat → Int64) → (Nat → Nat → Option Nat) → Unit → hS → Prop)  (l1i : Int32) (l3i : Int32) (l4i : Int32) (s0i : Int32) (n sl : Nat) (SH : Nat → Nat × Nat) (FI : Nat → Nat → Int32) (FL : Nat → Nat → Int64) (FR : Nat → Nat → Option Nat) : Unit → hS → Prop := (P_if ((s0i).toInt = 0) (RX12_tokens_328 K7  (l1i) (l3i) (l4i) (s0i) ((6 : Int32)) n sl SH FI FL FR) (RX12_tokens_328 K7  (l1i) (l3i) (l4i) (s0i) ((4 : Int32)) n sl SH FI FL FR))
set_option maxHeartbeats 4000000 in
set_option maxRecDepth 100000 in
theorem rX12_tokens_314 {sk : xK} {base N d : Nat} {K7 : Int32 → Nat → Nat → (Nat → Nat × Nat) → (Nat → Nat → Int32) → (Nat → Nat → Int64) → (Nat → Nat → Option Nat) → Unit → hS → Prop} (hkb : x_kb sk base)  (l1i : Int32) (l3i : Int32) (l4i : Int32) (s0i : Int32) (l2i : Int32) (l5i : Int32) (l6i : Int32) (n sl : Nat) (SH : Nat → Nat × Nat) (FI : Nat → Nat → Int32) (FL : Nat → Nat → Int64) (FR : Nat → Nat → Option Nat) (hok : pk n SH FR)  (hK7 : ∀ (l1i : Int32) (l2i : Int32) (l3i : Int32) (l4i : Int32) (l4l : Int64) (l5i : Int32) (l6i : Int32) (n sl : Nat) (SH : Nat → Nat × Nat) (FI : Nat → Nat → Int32) (FL : Nat → Nat → Int64) (FR : Nat → Nat → Option Nat), pk n SH FR → pw pj_V sk base N d none 212 7 [(0, .ref (base + 121)), (1, .int (l1i)), (2, .int (l2i)), (3, .int (l3i)), (4, .int (l4i)), (4, .long (l4l)), (5, .int (l5i)), (6, .int (l6i))] [] (n, sl, SH, FI, FL, FR) (K7 l1i n sl SH FI FL FR)) : pw pj_V sk base N d none 212 314 [(0, .ref (base + 121)), (1, .int (l1i)), (2, .int (l2i)), (3, .int (l3i)), (4, .int (l4i)), (5, .int (l5i)), (6, .int (l6i))] [.int (s0i)] (n, sl, SH, FI, FL, FR) (RX12_tokens_314 K7  l1i l3i l4i s0i n sl SH FI FL FR) := by
  unfold RX12_tokens_314
  refine pw_istore (L2 := [(5, .int (s0i)), (0, .ref (base + 121)), (1, .int (l1i)), (2, .int (l2i)), (3, .int (l3i)), (4, .int (l4i)), (6, .int (l6i))]) (aX12_tokens 176 rfl) rfl ?_
  refine pw_aloadn (aX12_tokens 177 rfl) rfl ?_
  refine pw_iload (aX12_tokens 178 rfl) rfl ?_
  refine pw_ifeq (tgt := 326) (aX12_tokens 179 rfl) (by decide) (fun b0 => ?_) (fun b0 => ?_)
  · skip
    refine pw_bipush (v := (6 : Int32)) (aX12_tokens 182 rfl) rfl ?_
    exact pw_Li (L2 := [(0, .ref (base + 121)), (1, .int (l1i)), (2, .int (l2i)), (3, .int (l3i)), (4, .int (l4i)), (5, .int (s0i)), (6, .int (l6i))]) [5, 0, 1, 2, 3, 4, 6] (rX12_tokens_328 hkb  (l1i) (l3i) (l4i) (s0i) ((6 : Int32)) (l2i) (l6i) n sl SH FI FL FR hok  hK7) ⟨rfl, rfl, rfl, rfl, rfl, rfl, rfl, trivial⟩
  · skip
    refine pw_iconst (v := (4 : Int32)) (aX12_tokens 180 rfl) rfl ?_
    refine pw_goto (tgt := 328) (aX12_tokens 181 rfl) (by decide) ?_
    exact pw_Li (L2 := [(0, .ref (base + 121)), (1, .int (l1i)), (2, .int (l2i)), (3, .int (l3i)), (4, .int (l4i)), (5, .int (s0i)), (6, .int (l6i))]) [5, 0, 1, 2, 3, 4, 6] (rX12_tokens_328 hkb  (l1i) (l3i) (l4i) (s0i) ((4 : Int32)) (l2i) (l6i) n sl SH FI FL FR hok  hK7) ⟨rfl, rfl, rfl, rfl, rfl, rfl, rfl, trivial⟩
def RX12_tokens_313 (K7 : Int32 → Nat → Nat → (Nat → Nat × Nat) → (Nat → Nat → Int32) → (Nat → Nat → Int64) → (Nat → Nat → Option Nat) → Unit → hS → Prop)  (l1i : Int32) (l3i : Int32) (l4i : Int32) (n sl : Nat) (SH : Nat → Nat × Nat) (FI : Nat → Nat → Int32) (FL : Nat → Nat → Int64) (FR : Nat → Nat → Option Nat) : Unit → hS → Prop := (RX12_tokens_314 K7  (l1i) (l3i) (l4i) ((0 : Int32)) n sl SH FI FL FR)
set_option maxHeartbeats 4000000 in
set_option maxRecDepth 100000 in
theorem rX12_tokens_313 {sk : xK} {base N d : Nat} {K7 : Int32 → Nat → Nat → (Nat → Nat × Nat) → (Nat → Nat → Int32) → (Nat → Nat → Int64) → (Nat → Nat → Option Nat) → Unit → hS → Prop} (hkb : x_kb sk base)  (l1i : Int32) (l3i : Int32) (l4i : Int32) (l2i : Int32) (l5i : Int32) (l6i : Int32) (n sl : Nat) (SH : Nat → Nat × Nat) (FI : Nat → Nat → Int32) (FL : Nat → Nat → Int64) (FR : Nat → Nat → Option Nat) (hok : pk n SH FR)  (hK7 : ∀ (l1i : Int32) (l2i : Int32) (l3i : Int32) (l4i : Int32) (l4l : Int64) (l5i : Int32) (l6i : Int32) (n sl : Nat) (SH : Nat → Nat × Nat) (FI : Nat → Nat → Int32) (FL : Nat → Nat → Int64) (FR : Nat → Nat → Option Nat), pk n SH FR → pw pj_V sk base N d none 212 7 [(0, .ref (base + 121)), (1, .int (l1i)), (2, .int (l2i)), (3, .int (l3i)), (4, .int (l4i)), (4, .long (l4l)), (5, .int (l5i)), (6, .int (l6i))] [] (n, sl, SH, FI, FL, FR) (K7 l1i n sl SH FI FL FR)) : pw pj_V sk base N d none 212 313 [(0, .ref (base + 121)), (1, .int (l1i)), (2, .int (l2i)), (3, .int (l3i)), (4, .int (l4i)), (5, .int (l5i)), (6, .int (l6i))] [] (n, sl, SH, FI, FL, FR) (RX12_tokens_313 K7  l1i l3i l4i n sl SH FI FL FR) := by
  unfold RX12_tokens_313
  refine pw_iconst (v := (0 : Int32)) (aX12_tokens 175 rfl) rfl ?_
  exact pw_Li (L2 := [(0, .ref (base + 121)), (1, .int (l1i)), (2, .int (l2i)), (3, .int (l3i)), (4, .int (l4i)), (5, .int (l5i)), (6, .int (l6i))]) [0, 1, 2, 3, 4, 5, 6] (rX12_tokens_314 hkb  (l1i) (l3i) (l4i) ((0 : Int32)) (l2i) (l5i) (l6i) n sl SH FI FL FR hok  hK7) ⟨rfl, rfl, rfl, rfl, rfl, rfl, rfl, trivial⟩
def RX12_tokens_271 (K7 : Int32 → Nat → Nat → (Nat → Nat × Nat) → (Nat → Nat → Int32) → (Nat → Nat → Int64) → (Nat → Nat → Option Nat) → Unit → hS → Prop)  (l1i : Int32) (l3i : Int32) (l4l : Int64) (s0i : Int32) (n sl : Nat) (SH : Nat → Nat × Nat) (FI : Nat → Nat → Int32) (FL : Nat → Nat → Int64) (FR : Nat → Nat → Option Nat) : Unit → hS → Prop := (P_bi (RX12_token (s0i) (l4l) (l3i) n sl SH FI FL FR) (fun v0 n0 sl0 SH0 FI0 FL0 FR0 => (RX12_tokens_363 K7  (l1i) n0 sl0 SH0 FI0 FL0 FR0)))
set_option maxHeartbeats 4000000 in
set_option maxRecDepth 100000 in
theorem rX12_tokens_271 {sk : xK} {base N d : Nat} {K7 : Int32 → Nat → Nat → (Nat → Nat × Nat) → (Nat → Nat → Int32) → (Nat → Nat → Int64) → (Nat → Nat → Option Nat) → Unit → hS → Prop} (hkb : x_kb sk base)  (l1i : Int32) (l3i : Int32) (l4l : Int64) (s0i : Int32) (l2i : Int32) (l6i : Int32) (n sl : Nat) (SH : Nat → Nat × Nat) (FI : Nat → Nat → Int32) (FL : Nat → Nat → Int64) (FR : Nat → Nat → Option Nat) (hok : pk n SH FR)  (hK7 : ∀ (l1i : Int32) (l2i : Int32) (l3i : Int32) (l4i : Int32) (l4l : Int64) (l5i : Int32) (l6i : Int32) (n sl : Nat) (SH : Nat → Nat × Nat) (FI : Nat → Nat → Int32) (FL : Nat → Nat → Int64) (FR : Nat → Nat → Option Nat), pk n SH FR → pw pj_V sk base N d none 212 7 [(0, .ref (base + 121)), (1, .int (l1i)), (2, .int (l2i)), (3, .int (l3i)), (4, .int (l4i)), (4, .long (l4l)), (5, .int (l5i)), (6, .int (l6i))] [] (n, sl, SH, FI, FL, FR) (K7 l1i n sl SH FI FL FR)) : pw pj_V sk base N d none 212 271 [(0, .ref (base + 121)), (1, .int (l1i)), (2, .int (l2i)), (3, .int (l3i)), (4, .long (l4l)), (6, .int (l6i))] [.int (s0i), .ref (base + 121)] (n, sl, SH, FI, FL, FR) (RX12_tokens_271 K7  l1i l3i l4l s0i n sl SH FI FL FR) := by
  unfold RX12_tokens_271
  refine pw_lload (aX12_tokens 154 rfl) rfl ?_
  refine pw_iloadn (aX12_tokens 155 rfl) rfl ?_
  refine pw_callV (Bs := [.int (s0i), .long (l4l), .int (l3i)]) (rest := []) (aX12_tokens 156 rfl) um_RX12_457 ujX12_token wc_RX12_457.2.2.2.2 (by decide) (by decide) rfl rfl (fun d => rX12_token hkb (s0i) (l4l) (l3i) n sl SH FI FL FR hok) (fun v0 n0 sl0 SH0 FI0 FL0 FR0 hok0 _ => ?_)
  show pw _ _ _ _ _ _ _ 277 _ [] _ _
  refine pw_goto (tgt := 363) (aX12_tokens 157 rfl) (by decide) ?_
  exact pw_Li (L2 := [(0, .ref (base + 121)), (1, .int (l1i)), (2, .int (l2i)), (3, .int (l3i)), (4, .int 0), (4, .long (l4l)), (5, .int 0), (6, .int (l6i))]) [0, 1, 2, 3, 5, 7] (rX12_tokens_363 hkb  (l1i) (l2i) (l3i) 0 (l4l) 0 (l6i) n0 sl0 SH0 FI0 FL0 FR0 hok0  hK7) ⟨rfl, rfl, rfl, rfl, rfl, rfl, trivial⟩
def RX12_tokens_265 (K7 : Int32 → Nat → Nat → (Nat → Nat × Nat) → (Nat → Nat → Int32) → (Nat → Nat → Int64) → (Nat → Nat → Option Nat) → Unit → hS → Prop)  (l1i : Int32) (l3i : Int32) (l4l : Int64) (n sl : Nat) (SH : Nat → Nat × Nat) (FI : Nat → Nat → Int32) (FL : Nat → Nat → Int64) (FR : Nat → Nat → Option Nat) : Unit → hS → Prop := (RX12_tokens_271 K7  (l1i) (l3i) (l4l) ((6 : Int32)) n sl SH FI FL FR)
set_option maxHeartbeats 4000000 in
set_option maxRecDepth 100000 in
theorem rX12_tokens_265 {sk : xK} {base N d : Nat} {K7 : Int32 → Nat → Nat → (Nat → Nat × Nat) → (Nat → Nat → Int32) → (Nat → Nat → Int64) → (Nat → Nat → Option Nat) → Unit → hS → Prop} (hkb : x_kb sk base)  (l1i : Int32) (l3i : Int32) (l4l : Int64) (l2i : Int32) (l6i : Int32) (n sl : Nat) (SH : Nat → Nat × Nat) (FI : Nat → Nat → Int32) (FL : Nat → Nat → Int64) (FR : Nat → Nat → Option Nat) (hok : pk n SH FR)  (hK7 : ∀ (l1i : Int32) (l2i : Int32) (l3i : Int32) (l4i : Int32) (l4l : Int64) (l5i : Int32) (l6i : Int32) (n sl : Nat) (SH : Nat → Nat × Nat) (FI : Nat → Nat → Int32) (FL : Nat → Nat → Int64) (FR : Nat → Nat → Option Nat), pk n SH FR → pw pj_V sk base N d none 212 7 [(0, .ref (base + 121)), (1, .int (l1i)), (2, .int (l2i)), (3, .int (l3i)), (4, .int (l4i)), (4, .long (l4l)), (5, .int (l5i)), (6, .int (l6i))] [] (n, sl, SH, FI, FL, FR) (K7 l1i n sl SH FI FL FR)) : pw pj_V sk base N d none 212 265 [(0, .ref (base + 121)), (1, .int (l1i)), (2, .int (l2i)), (3, .int (l3i)), (4, .long (l4l)), (6, .int (l6i))] [.ref (base + 121)] (n, sl, SH, FI, FL, FR) (RX12_tokens_265 K7  l1i l3i l4l n sl SH FI FL FR) := by
  unfold RX12_tokens_265
  refine pw_bipush (v := (6 : Int32)) (aX12_tokens 151 rfl) rfl ?_
  refine pw_goto (tgt := 271) (aX12_tokens 152 rfl) (by decide) ?_
  exact pw_Li (L2 := [(0, .ref (base + 121)), (1, .int (l1i)), (2, .int (l2i)), (3, .int (l3i)), (4, .long (l4l)), (6, .int (l6i))]) [0, 1, 2, 3, 4, 5] (rX12_tokens_271 hkb  (l1i) (l3i) (l4l) ((6 : Int32)) (l2i) (l6i) n sl SH FI FL FR hok  hK7) ⟨rfl, rfl, rfl, rfl, rfl, rfl, trivial⟩
def RX12_tokens_237 (K7 : Int32 → Nat → Nat → (Nat → Nat × Nat) → (Nat → Nat → Int32) → (Nat → Nat → Int64) → (Nat → Nat → Option Nat) → Unit → hS → Prop) (K198 : Int32 → Int32 → Int64 → Nat → Nat → (Nat → Nat × Nat) → (Nat → Nat → Int32) → (Nat → Nat → Int64) → (Nat → Nat → Option Nat) → Unit → hS → Prop)  (l1i : Int32) (l3i : Int32) (l4l : Int64) (n sl : Nat) (SH : Nat → Nat × Nat) (FI : Nat → Nat → Int32) (FL : Nat → Nat → Int64) (FR : Nat → Nat → Option Nat) : Unit → hS → Prop := (K198 ((l1i) + ((1 : Int32))) (l3i) (l4l) n sl SH FI FL FR)
set_option maxHeartbeats 4000000 in
set_option maxRecDepth 100000 in
theorem rX12_tokens_237 {sk : xK} {base N d : Nat} {K7 : Int32 → Nat → Nat → (Nat → Nat × Nat) → (Nat → Nat → Int32) → (Nat → Nat → Int64) → (Nat → Nat → Option Nat) → Unit → hS → Prop} {K198 : Int32 → Int32 → Int64 → Nat → Nat → (Nat → Nat × Nat) → (Nat → Nat → Int32) → (Nat → Nat → Int64) → (Nat → Nat → Option Nat) → Unit → hS → Prop} (hkb : x_kb sk base)  (l1i : Int32) (l3i : Int32) (l4l : Int64) (l2i : Int32) (l6i : Int32) (n sl : Nat) (SH : Nat → Nat × Nat) (FI : Nat → Nat → Int32) (FL : Nat → Nat → Int64) (FR : Nat → Nat → Option Nat) (hok : pk n SH FR)  (hK7 : ∀ (l1i : Int32) (l2i : Int32) (l3i : Int32) (l4i : Int32) (l4l : Int64) (l5i : Int32) (l6i : Int32) (n sl : Nat) (SH : Nat → Nat × Nat) (FI : Nat → Nat → Int32) (FL : Nat → Nat → Int64) (FR : Nat → Nat → Option Nat), pk n SH FR → pw pj_V sk base N d none 212 7 [(0, .ref (base + 121)), (1, .int (l1i)), (2, .int (l2i)), (3, .int (l3i)), (4, .int (l4i)), (4, .long (l4l)), (5, .int (l5i)), (6, .int (l6i))] [] (n, sl, SH, FI, FL, FR) (K7 l1i n sl SH FI FL FR)) (hK198 : ∀ (l1i : Int32) (l3i : Int32) (l4l : Int64) (l2i : Int32) (l6i : Int32) (n sl : Nat) (SH : Nat → Nat × Nat) (FI : Nat → Nat → Int32) (FL : Nat → Nat → Int64) (FR : Nat → Nat → Option Nat), pk n SH FR → pw pj_V sk base N d none 212 198 [(0, .ref (base + 121)), (1, .int (l1i)), (2, .int (l2i)), (3, .int (l3i)), (4, .long (l4l)), (6, .int (l6i))] [] (n, sl, SH, FI, FL, FR) (K198 l1i l3i l4l n sl SH FI FL FR)) : pw pj_V sk base N d none 212 237 [(0, .ref (base + 121)), (1, .int (l1i)), (2, .int (l2i)), (3, .int (l3i)), (4, .long (l4l)), (6, .int (l6i))] [] (n, sl, SH, FI, FL, FR) (RX12_tokens_237 K7 K198  l1i l3i l4l n sl SH FI FL FR) := by
  unfold RX12_tokens_237
  refine pw_iloadn (aX12_tokens 134 rfl) rfl ?_
  refine pw_iconst (v := (1 : Int32)) (aX12_tokens 135 rfl) rfl ?_
  refine pw_iadd (aX12_tokens 136 rfl) ?_
  refine pw_istoren (L2 := [(1, .int ((l1i) + ((1 : Int32)))), (0, .ref (base + 121)), (2, .int (l2i)), (3, .int (l3i)), (4, .long (l4l)), (6, .int (l6i))]) (aX12_tokens 137 rfl) rfl ?_
  refine pw_goto (tgt := 198) (aX12_tokens 138 rfl) (by decide) ?_
  exact pw_Li (L2 := [(0, .ref (base + 121)), (1, .int ((l1i) + ((1 : Int32)))), (2, .int (l2i)), (3, .int (l3i)), (4, .long (l4l)), (6, .int (l6i))]) [1, 0, 2, 3, 4, 5] (hK198 ((l1i) + ((1 : Int32))) (l3i) (l4l) (l2i) (l6i) n sl SH FI FL FR hok) ⟨rfl, rfl, rfl, rfl, rfl, rfl, trivial⟩
def BX12_tokens_198 (K7 : Int32 → Nat → Nat → (Nat → Nat × Nat) → (Nat → Nat → Int32) → (Nat → Nat → Int64) → (Nat → Nat → Option Nat) → Unit → hS → Prop) (K198 : Int32 → Int32 → Int64 → Nat → Nat → (Nat → Nat × Nat) → (Nat → Nat → Int32) → (Nat → Nat → Int64) → (Nat → Nat → Option Nat) → Unit → hS → Prop)  (l1i : Int32) (l3i : Int32) (l4l : Int64) (n sl : Nat) (SH : Nat → Nat × Nat) (FI : Nat → Nat → Int32) (FL : Nat → Nat → Int64) (FR : Nat → Nat → Option Nat) : Unit → hS → Prop := (P_if ((fX12_isDigit (fX12_sign (l1i) SH FI FL FR) SH FI FL FR).toInt = 0) (P_if (((18 : Int32)).toInt < ((l1i) - (l3i)).toInt) (RX12_tokens_265 K7  (l1i) (l3i) (l4l) n sl SH FI FL FR) (P_if ((fX12_isLetter (fX12_sign (l1i) SH FI FL FR) SH FI FL FR).toInt = 0) (RX12_tokens_271 K7  (l1i) (l3i) (l4l) ((3 : Int32)) n sl SH FI FL FR) (RX12_tokens_265 K7  (l1i) (l3i) (l4l) n sl SH FI FL FR))) (P_if (((l1i) - (l3i)).toInt < ((18 : Int32)).toInt) (RX12_tokens_237 K7 K198  (l1i) (l3i) (((((10 : Int64)) * (l4l)) + ((fX12_sign (l1i) SH FI FL FR).toInt64)) - ((48 : Int64))) n sl SH FI FL FR) (RX12_tokens_237 K7 K198  (l1i) (l3i) (l4l) n sl SH FI FL FR)))
set_option maxHeartbeats 4000000 in
set_option maxRecDepth 100000 in
theorem bX12_tokens_198 {sk : xK} {base N d : Nat} {K7 : Int32 → Nat → Nat → (Nat → Nat × Nat) → (Nat → Nat → Int32) → (Nat → Nat → Int64) → (Nat → Nat → Option Nat) → Unit → hS → Prop} {K198 : Int32 → Int32 → Int64 → Nat → Nat → (Nat → Nat × Nat) → (Nat → Nat → Int32) → (Nat → Nat → Int64) → (Nat → Nat → Option Nat) → Unit → hS → Prop} (hkb : x_kb sk base)  (l1i : Int32) (l3i : Int32) (l4l : Int64) (l2i : Int32) (l6i : Int32) (n sl : Nat) (SH : Nat → Nat × Nat) (FI : Nat → Nat → Int32) (FL : Nat → Nat → Int64) (FR : Nat → Nat → Option Nat) (hok : pk n SH FR)  (hK7 : ∀ (l1i : Int32) (l2i : Int32) (l3i : Int32) (l4i : Int32) (l4l : Int64) (l5i : Int32) (l6i : Int32) (n sl : Nat) (SH : Nat → Nat × Nat) (FI : Nat → Nat → Int32) (FL : Nat → Nat → Int64) (FR : Nat → Nat → Option Nat), pk n SH FR → pw pj_V sk base N d none 212 7 [(0, .ref (base + 121)), (1, .int (l1i)), (2, .int (l2i)), (3, .int (l3i)), (4, .int (l4i)), (4, .long (l4l)), (5, .int (l5i)), (6, .int (l6i))] [] (n, sl, SH, FI, FL, FR) (K7 l1i n sl SH FI FL FR)) (hK198 : ∀ (l1i : Int32) (l3i : Int32) (l4l : Int64) (l2i : Int32) (l6i : Int32) (n sl : Nat) (SH : Nat → Nat × Nat) (FI : Nat → Nat → Int32) (FL : Nat → Nat → Int64) (FR : Nat → Nat → Option Nat), pk n SH FR → pw pj_V sk base N d none 212 198 [(0, .ref (base + 121)), (1, .int (l1i)), (2, .int (l2i)), (3, .int (l3i)), (4, .long (l4l)), (6, .int (l6i))] [] (n, sl, SH, FI, FL, FR) (K198 l1i l3i l4l n sl SH FI FL FR)) : pw pj_V sk base (N + 1) d none 212 198 [(0, .ref (base + 121)), (1, .int (l1i)), (2, .int (l2i)), (3, .int (l3i)), (4, .long (l4l)), (6, .int (l6i))] [] (n, sl, SH, FI, FL, FR) (BX12_tokens_198 K7 K198  l1i l3i l4l n sl SH FI FL FR) := by
  unfold BX12_tokens_198
  refine pd_aloadn (aX12_tokens 112 rfl) rfl ?_
  refine pw_aloadn (aX12_tokens 113 rfl) rfl ?_
  refine pw_iloadn (aX12_tokens 114 rfl) rfl ?_
  refine pw_cf (pw_callV (Bs := [.int (l1i)]) (rest := [.ref (base + 121)]) (aX12_tokens 115 rfl) um_RX12_449 ujX12_sign wc_RX12_449.2.2.2.2 (by decide) (by decide) rfl rfl (fun d => rX12_sign hkb (l1i) n sl SH FI FL FR hok) (fun v0 n0 sl0 SH0 FI0 FL0 FR0 _ hC => ?_))
  obtain ⟨rfl, hC⟩ := hC; cases hC
  show pw _ _ _ _ _ _ _ 204 _ [.int (fX12_sign (l1i) SH FI FL FR), .ref (base + 121)] _ _
  refine pw_cf (pw_callV (Bs := [.int (fX12_sign (l1i) SH FI FL FR)]) (rest := []) (aX12_tokens 116 rfl) um_RX12_452 ujX12_isDigit wc_RX12_452.2.2.2.2 (by decide) (by decide) rfl rfl (fun d => rX12_isDigit hkb (fX12_sign (l1i) SH FI FL FR) n sl SH FI FL FR hok) (fun v1 n1 sl1 SH1 FI1 FL1 FR1 _ hC => ?_))
  obtain ⟨rfl, hC⟩ := hC; cases hC
  show pw _ _ _ _ _ _ _ 207 _ [.int (fX12_isDigit (fX12_sign (l1i) SH FI FL FR) SH FI FL FR)] _ _
  refine pw_ifeq (tgt := 244) (aX12_tokens 117 rfl) (by decide) (fun b2 => ?_) (fun b2 => ?_)
  · skip
    refine pw_aloadn (aX12_tokens 139 rfl) rfl ?_
    refine pw_iloadn (aX12_tokens 140 rfl) rfl ?_
    refine pw_iloadn (aX12_tokens 141 rfl) rfl ?_
    refine pw_isub (aX12_tokens 142 rfl) ?_
    refine pw_bipush (v := (18 : Int32)) (aX12_tokens 143 rfl) rfl ?_
    refine pw_icgt (tgt := 265) (aX12_tokens 144 rfl) (by decide) (fun b3 => ?_) (fun b3 => ?_)
    · skip
      exact pw_Li (L2 := [(0, .ref (base + 121)), (1, .int (l1i)), (2, .int (l2i)), (3, .int (l3i)), (4, .long (l4l)), (6, .int (l6i))]) [0, 1, 2, 3, 4, 5] (rX12_tokens_265 hkb  (l1i) (l3i) (l4l) (l2i) (l6i) n sl SH FI FL FR hok  hK7) ⟨rfl, rfl, rfl, rfl, rfl, rfl, trivial⟩
    · skip
      refine pw_aloadn (aX12_tokens 145 rfl) rfl ?_
      refine pw_aloadn (aX12_tokens 146 rfl) rfl ?_
      refine pw_iloadn (aX12_tokens 147 rfl) rfl ?_
      refine pw_cf (pw_callV (Bs := [.int (l1i)]) (rest := [.ref (base + 121), .ref (base + 121)]) (aX12_tokens 148 rfl) um_RX12_449 ujX12_sign wc_RX12_449.2.2.2.2 (by decide) (by decide) rfl rfl (fun d => rX12_sign hkb (l1i) n sl SH FI FL FR hok) (fun v4 n4 sl4 SH4 FI4 FL4 FR4 _ hC => ?_))
      obtain ⟨rfl, hC⟩ := hC; cases hC
      show pw _ _ _ _ _ _ _ 259 _ [.int (fX12_sign (l1i) SH FI FL FR), .ref (base + 121), .ref (base + 121)] _ _
      refine pw_cf (pw_callV (Bs := [.int (fX12_sign (l1i) SH FI FL FR)]) (rest := [.ref (base + 121)]) (aX12_tokens 149 rfl) um_RX12_469 ujX12_isLetter wc_RX12_469.2.2.2.2 (by decide) (by decide) rfl rfl (fun d => rX12_isLetter hkb (fX12_sign (l1i) SH FI FL FR) n sl SH FI FL FR hok) (fun v5 n5 sl5 SH5 FI5 FL5 FR5 _ hC => ?_))
      obtain ⟨rfl, hC⟩ := hC; cases hC
      show pw _ _ _ _ _ _ _ 262 _ [.int (fX12_isLetter (fX12_sign (l1i) SH FI FL FR) SH FI FL FR), .ref (base + 121)] _ _
      refine pw_ifeq (tgt := 270) (aX12_tokens 150 rfl) (by decide) (fun b6 => ?_) (fun b6 => ?_)
      · skip
        refine pw_iconst (v := (3 : Int32)) (aX12_tokens 153 rfl) rfl ?_
        exact pw_Li (L2 := [(0, .ref (base + 121)), (1, .int (l1i)), (2, .int (l2i)), (3, .int (l3i)), (4, .long (l4l)), (6, .int (l6i))]) [0, 1, 2, 3, 4, 5] (rX12_tokens_271 hkb  (l1i) (l3i) (l4l) ((3 : Int32)) (l2i) (l6i) n sl SH FI FL FR hok  hK7) ⟨rfl, rfl, rfl, rfl, rfl, rfl, trivial⟩
      · skip
        exact pw_Li (L2 := [(0, .ref (base + 121)), (1, .int (l1i)), (2, .int (l2i)), (3, .int (l3i)), (4, .long (l4l)), (6, .int (l6i))]) [0, 1, 2, 3, 4, 5] (rX12_tokens_265 hkb  (l1i) (l3i) (l4l) (l2i) (l6i) n sl SH FI FL FR hok  hK7) ⟨rfl, rfl, rfl, rfl, rfl, rfl, trivial⟩
  · skip
    refine pw_iloadn (aX12_tokens 118 rfl) rfl ?_
    refine pw_iloadn (aX12_tokens 119 rfl) rfl ?_
    refine pw_isub (aX12_tokens 120 rfl) ?_
    refine pw_bipush (v := (18 : Int32)) (aX12_tokens 121 rfl) rfl ?_
    refine pw_icge (tgt := 237) (aX12_tokens 122 rfl) (by decide) (fun b7 => ?_) (fun b7 => ?_)
    · skip
      refine pw_ldc2 (v := (10 : Int64)) (aX12_tokens 123 rfl) uk_RX12_465 ?_
      refine pw_lload (aX12_tokens 124 rfl) rfl ?_
      refine pw_lmul (aX12_tokens 125 rfl) ?_
      refine pw_aloadn (aX12_tokens 126 rfl) rfl ?_
      refine pw_iloadn (aX12_tokens 127 rfl) rfl ?_
      refine pw_cf (pw_callV (Bs := [.int (l1i)]) (rest := [.long (((10 : Int64)) * (l4l))]) (aX12_tokens 128 rfl) um_RX12_449 ujX12_sign wc_RX12_449.2.2.2.2 (by decide) (by decide) rfl rfl (fun d => rX12_sign hkb (l1i) n sl SH FI FL FR hok) (fun v8 n8 sl8 SH8 FI8 FL8 FR8 _ hC => ?_))
      obtain ⟨rfl, hC⟩ := hC; cases hC
      show pw _ _ _ _ _ _ _ 229 _ [.int (fX12_sign (l1i) SH FI FL FR), .long (((10 : Int64)) * (l4l))] _ _
      refine pw_i2l (aX12_tokens 129 rfl) ?_
      refine pw_ladd (aX12_tokens 130 rfl) ?_
      refine pw_ldc2 (v := (48 : Int64)) (aX12_tokens 131 rfl) uk_RX12_467 ?_
      refine pw_lsub (aX12_tokens 132 rfl) ?_
      refine pw_lstore (L2 := [(4, .long (((((10 : Int64)) * (l4l)) + ((fX12_sign (l1i) SH FI FL FR).toInt64)) - ((48 : Int64)))), (0, .ref (base + 121)), (1, .int (l1i)), (2, .int (l2i)), (3, .int (l3i)), (6, .int (l6i))]) (aX12_tokens 133 rfl) rfl ?_
      exact pw_Li (L2 := [(0, .ref (base + 121)), (1, .int (l1i)), (2, .int (l2i)), (3, .int (l3i)), (4, .long (((((10 : Int64)) * (l4l)) + ((fX12_sign (l1i) SH FI FL FR).toInt64)) - ((48 : Int64)))), (6, .int (l6i))]) [4, 0, 1, 2, 3, 5] (rX12_tokens_237 hkb  (l1i) (l3i) (((((10 : Int64)) * (l4l)) + ((fX12_sign (l1i) SH FI FL FR).toInt64)) - ((48 : Int64))) (l2i) (l6i) n sl SH FI FL FR hok  hK7 hK198) ⟨rfl, rfl, rfl, rfl, rfl, rfl, trivial⟩
    · skip
      exact pw_Li (L2 := [(0, .ref (base + 121)), (1, .int (l1i)), (2, .int (l2i)), (3, .int (l3i)), (4, .long (l4l)), (6, .int (l6i))]) [0, 1, 2, 3, 4, 5] (rX12_tokens_237 hkb  (l1i) (l3i) (l4l) (l2i) (l6i) n sl SH FI FL FR hok  hK7 hK198) ⟨rfl, rfl, rfl, rfl, rfl, rfl, trivial⟩
def GX12_tokens_198 (K7 : Int32 → Nat → Nat → (Nat → Nat × Nat) → (Nat → Nat → Int32) → (Nat → Nat → Int64) → (Nat → Nat → Option Nat) → Unit → hS → Prop)  : Nat → Int32 → Int32 → Int64 → Nat → Nat → (Nat → Nat × Nat) → (Nat → Nat → Int32) → (Nat → Nat → Int64) → (Nat → Nat → Option Nat) → Unit → hS → Prop
  | 0, _, _, _, _, _, _, _, _, _ => fun _ _ => False
  | g + 1, l1i, l3i, l4l, n, sl, SH, FI, FL, FR => BX12_tokens_198 K7 (GX12_tokens_198 K7  g)  l1i l3i l4l n sl SH FI FL FR
def RX12_tokens_198 (K7 : Int32 → Nat → Nat → (Nat → Nat × Nat) → (Nat → Nat → Int32) → (Nat → Nat → Int64) → (Nat → Nat → Option Nat) → Unit → hS → Prop)  (l1i : Int32) (l3i : Int32) (l4l : Int64) (n sl : Nat) (SH : Nat → Nat × Nat) (FI : Nat → Nat → Int32) (FL : Nat → Nat → Int64) (FR : Nat → Nat → Option Nat) : Unit → hS → Prop := fun v s => ∃ g, GX12_tokens_198 K7  g l1i l3i l4l n sl SH FI FL FR v s
theorem gX12_tokens_198 {sk : xK} {base d : Nat} {K7 : Int32 → Nat → Nat → (Nat → Nat × Nat) → (Nat → Nat → Int32) → (Nat → Nat → Int64) → (Nat → Nat → Option Nat) → Unit → hS → Prop} (hkb : x_kb sk base)  (N : Nat) : (∀ (l1i : Int32) (l2i : Int32) (l3i : Int32) (l4i : Int32) (l4l : Int64) (l5i : Int32) (l6i : Int32) (n sl : Nat) (SH : Nat → Nat × Nat) (FI : Nat → Nat → Int32) (FL : Nat → Nat → Int64) (FR : Nat → Nat → Option Nat), pk n SH FR → pw pj_V sk base N d none 212 7 [(0, .ref (base + 121)), (1, .int (l1i)), (2, .int (l2i)), (3, .int (l3i)), (4, .int (l4i)), (4, .long (l4l)), (5, .int (l5i)), (6, .int (l6i))] [] (n, sl, SH, FI, FL, FR) (K7 l1i n sl SH FI FL FR)) →  ∀ (l1i : Int32) (l3i : Int32) (l4l : Int64) (l2i : Int32) (l6i : Int32) (n sl : Nat) (SH : Nat → Nat × Nat) (FI : Nat → Nat → Int32) (FL : Nat → Nat → Int64) (FR : Nat → Nat → Option Nat), pk n SH FR → pw pj_V sk base N d none 212 198 [(0, .ref (base + 121)), (1, .int (l1i)), (2, .int (l2i)), (3, .int (l3i)), (4, .long (l4l)), (6, .int (l6i))] [] (n, sl, SH, FI, FL, FR) (GX12_tokens_198 K7  (N + 1) l1i l3i l4l n sl SH FI FL FR) := by
  induction N with
  | zero => intros; exact pw_0
  | succ N ih => intro  hK7 l1i l3i l4l l2i l6i n sl SH FI FL FR hok; exact bX12_tokens_198 hkb  l1i l3i l4l l2i l6i n sl SH FI FL FR hok  (fun l1i l2i l3i l4i l4l l5i l6i n sl SH FI FL FR ok => pw_mono (hK7 l1i l2i l3i l4i l4l l5i l6i n sl SH FI FL FR ok) (Nat.le_succ _)) (ih  (fun l1i l2i l3i l4i l4l l5i l6i n sl SH FI FL FR ok => pw_mono (hK7 l1i l2i l3i l4i l4l l5i l6i n sl SH FI FL FR ok) (Nat.le_succ _)))
theorem rX12_tokens_198 {sk : xK} {base N d : Nat} {K7 : Int32 → Nat → Nat → (Nat → Nat × Nat) → (Nat → Nat → Int32) → (Nat → Nat → Int64) → (Nat → Nat → Option Nat) → Unit → hS → Prop} (hkb : x_kb sk base)  (l1i : Int32) (l3i : Int32) (l4l : Int64) (l2i : Int32) (l6i : Int32) (n sl : Nat) (SH : Nat → Nat × Nat) (FI : Nat → Nat → Int32) (FL : Nat → Nat → Int64) (FR : Nat → Nat → Option Nat) (hok : pk n SH FR)  (hK7 : ∀ (l1i : Int32) (l2i : Int32) (l3i : Int32) (l4i : Int32) (l4l : Int64) (l5i : Int32) (l6i : Int32) (n sl : Nat) (SH : Nat → Nat × Nat) (FI : Nat → Nat → Int32) (FL : Nat → Nat → Int64) (FR : Nat → Nat → Option Nat), pk n SH FR → pw pj_V sk base N d none 212 7 [(0, .ref (base + 121)), (1, .int (l1i)), (2, .int (l2i)), (3, .int (l3i)), (4, .int (l4i)), (4, .long (l4l)), (5, .int (l5i)), (6, .int (l6i))] [] (n, sl, SH, FI, FL, FR) (K7 l1i n sl SH FI FL FR)) : pw pj_V sk base N d none 212 198 [(0, .ref (base + 121)), (1, .int (l1i)), (2, .int (l2i)), (3, .int (l3i)), (4, .long (l4l)), (6, .int (l6i))] [] (n, sl, SH, FI, FL, FR) (RX12_tokens_198 K7  l1i l3i l4l n sl SH FI FL FR) := pw_cons (gX12_tokens_198 hkb  N  hK7 l1i l3i l4l l2i l6i n sl SH FI FL FR hok) (fun _ _ h => ⟨_, h⟩)
def RX12_tokens_184 (K7 : Int32 → Nat → Nat → (Nat → Nat × Nat) → (Nat → Nat → Int32) → (Nat → Nat → Int64) → (Nat → Nat → Option Nat) → Unit → hS → Prop)  (l1i : Int32) (n sl : Nat) (SH : Nat → Nat × Nat) (FI : Nat → Nat → Int32) (FL : Nat → Nat → Int64) (FR : Nat → Nat → Option Nat) : Unit → hS → Prop := (RX12_tokens_363 K7  (l1i) n sl SH FI FL FR)
set_option maxHeartbeats 4000000 in
set_option maxRecDepth 100000 in
theorem rX12_tokens_184 {sk : xK} {base N d : Nat} {K7 : Int32 → Nat → Nat → (Nat → Nat × Nat) → (Nat → Nat → Int32) → (Nat → Nat → Int64) → (Nat → Nat → Option Nat) → Unit → hS → Prop} (hkb : x_kb sk base)  (l1i : Int32) (l2i : Int32) (l3i : Int32) (l4l : Int64) (l6i : Int32) (n sl : Nat) (SH : Nat → Nat × Nat) (FI : Nat → Nat → Int32) (FL : Nat → Nat → Int64) (FR : Nat → Nat → Option Nat) (hok : pk n SH FR)  (hK7 : ∀ (l1i : Int32) (l2i : Int32) (l3i : Int32) (l4i : Int32) (l4l : Int64) (l5i : Int32) (l6i : Int32) (n sl : Nat) (SH : Nat → Nat × Nat) (FI : Nat → Nat → Int32) (FL : Nat → Nat → Int64) (FR : Nat → Nat → Option Nat), pk n SH FR → pw pj_V sk base N d none 212 7 [(0, .ref (base + 121)), (1, .int (l1i)), (2, .int (l2i)), (3, .int (l3i)), (4, .int (l4i)), (4, .long (l4l)), (5, .int (l5i)), (6, .int (l6i))] [] (n, sl, SH, FI, FL, FR) (K7 l1i n sl SH FI FL FR)) : pw pj_V sk base N d none 212 184 [(0, .ref (base + 121)), (1, .int (l1i)), (2, .int (l2i)), (3, .int (l3i)), (4, .long (l4l)), (6, .int (l6i))] [] (n, sl, SH, FI, FL, FR) (RX12_tokens_184 K7  l1i n sl SH FI FL FR) := by
  unfold RX12_tokens_184
  refine pw_goto (tgt := 363) (aX12_tokens 105 rfl) (by decide) ?_
  exact pw_Li (L2 := [(0, .ref (base + 121)), (1, .int (l1i)), (2, .int (l2i)), (3, .int (l3i)), (4, .int 0), (4, .long (l4l)), (5, .int 0), (6, .int (l6i))]) [0, 1, 2, 3, 5, 7] (rX12_tokens_363 hkb  (l1i) (l2i) (l3i) 0 (l4l) 0 (l6i) n sl SH FI FL FR hok  hK7) ⟨rfl, rfl, rfl, rfl, rfl, rfl, trivial⟩
def RX12_tokens_124 (K7 : Int32 → Nat → Nat → (Nat → Nat × Nat) → (Nat → Nat → Int32) → (Nat → Nat → Int64) → (Nat → Nat → Option Nat) → Unit → hS → Prop) (K53 : Int32 → Int32 → Int64 → Nat → Nat → (Nat → Nat × Nat) → (Nat → Nat → Int32) → (Nat → Nat → Int64) → (Nat → Nat → Option Nat) → Unit → hS → Prop)  (l1i : Int32) (l3i : Int32) (l4l : Int64) (n sl : Nat) (SH : Nat → Nat × Nat) (FI : Nat → Nat → Int32) (FL : Nat → Nat → Int64) (FR : Nat → Nat → Option Nat) : Unit → hS → Prop := (K53 ((l1i) + ((1 : Int32))) (l3i) (l4l) n sl SH FI FL FR)
set_option maxHeartbeats 4000000 in
set_option maxRecDepth 100000 in
theorem rX12_tokens_124 {sk : xK} {base N d : Nat} {K7 : Int32 → Nat → Nat → (Nat → Nat × Nat) → (Nat → Nat → Int32) → (Nat → Nat → Int64) → (Nat → Nat → Option Nat) → Unit → hS → Prop} {K53 : Int32 → Int32 → Int64 → Nat → Nat → (Nat → Nat × Nat) → (Nat → Nat → Int32) → (Nat → Nat → Int64) → (Nat → Nat → Option Nat) → Unit → hS → Prop} (hkb : x_kb sk base)  (l1i : Int32) (l3i : Int32) (l4l : Int64) (l2i : Int32) (l6i : Int32) (n sl : Nat) (SH : Nat → Nat × Nat) (FI : Nat → Nat → Int32) (FL : Nat → Nat → Int64) (FR : Nat → Nat → Option Nat) (hok : pk n SH FR)  (hK7 : ∀ (l1i : Int32) (l2i : Int32) (l3i : Int32) (l4i : Int32) (l4l : Int64) (l5i : Int32) (l6i : Int32) (n sl : Nat) (SH : Nat → Nat × Nat) (FI : Nat → Nat → Int32) (FL : Nat → Nat → Int64) (FR : Nat → Nat → Option Nat), pk n SH FR → pw pj_V sk base N d none 212 7 [(0, .ref (base + 121)), (1, .int (l1i)), (2, .int (l2i)), (3, .int (l3i)), (4, .int (l4i)), (4, .long (l4l)), (5, .int (l5i)), (6, .int (l6i))] [] (n, sl, SH, FI, FL, FR) (K7 l1i n sl SH FI FL FR)) (hK53 : ∀ (l1i : Int32) (l3i : Int32) (l4l : Int64) (l2i : Int32) (l6i : Int32) (n sl : Nat) (SH : Nat → Nat × Nat) (FI : Nat → Nat → Int32) (FL : Nat → Nat → Int64) (FR : Nat → Nat → Option Nat), pk n SH FR → pw pj_V sk base N d none 212 53 [(0, .ref (base + 121)), (1, .int (l1i)), (2, .int (l2i)), (3, .int (l3i)), (4, .long (l4l)), (6, .int (l6i))] [] (n, sl, SH, FI, FL, FR) (K53 l1i l3i l4l n sl SH FI FL FR)) : pw pj_V sk base N d none 212 124 [(0, .ref (base + 121)), (1, .int (l1i)), (2, .int (l2i)), (3, .int (l3i)), (4, .long (l4l)), (6, .int (l6i))] [] (n, sl, SH, FI, FL, FR) (RX12_tokens_124 K7 K53  l1i l3i l4l n sl SH FI FL FR) := by
  unfold RX12_tokens_124
  refine pw_iloadn (aX12_tokens 70 rfl) rfl ?_
  refine pw_iconst (v := (1 : Int32)) (aX12_tokens 71 rfl) rfl ?_
  refine pw_iadd (aX12_tokens 72 rfl) ?_
  refine pw_istoren (L2 := [(1, .int ((l1i) + ((1 : Int32)))), (0, .ref (base + 121)), (2, .int (l2i)), (3, .int (l3i)), (4, .long (l4l)), (6, .int (l6i))]) (aX12_tokens 73 rfl) rfl ?_
  refine pw_goto (tgt := 53) (aX12_tokens 74 rfl) (by decide) ?_
  exact pw_Li (L2 := [(0, .ref (base + 121)), (1, .int ((l1i) + ((1 : Int32)))), (2, .int (l2i)), (3, .int (l3i)), (4, .long (l4l)), (6, .int (l6i))]) [1, 0, 2, 3, 4, 5] (hK53 ((l1i) + ((1 : Int32))) (l3i) (l4l) (l2i) (l6i) n sl SH FI FL FR hok) ⟨rfl, rfl, rfl, rfl, rfl, rfl, trivial⟩
def RX12_tokens_120 (K7 : Int32 → Nat → Nat → (Nat → Nat × Nat) → (Nat → Nat → Int32) → (Nat → Nat → Int64) → (Nat → Nat → Option Nat) → Unit → hS → Prop) (K53 : Int32 → Int32 → Int64 → Nat → Nat → (Nat → Nat × Nat) → (Nat → Nat → Int32) → (Nat → Nat → Int64) → (Nat → Nat → Option Nat) → Unit → hS → Prop)  (l1i : Int32) (l3i : Int32) (s0i : Int32) (s1l : Int64) (n sl : Nat) (SH : Nat → Nat × Nat) (FI : Nat → Nat → Int32) (FL : Nat → Nat → Int64) (FR : Nat → Nat → Option Nat) : Unit → hS → Prop := (RX12_tokens_124 K7 K53  (l1i) (l3i) ((s1l) + ((s0i).toInt64)) n sl SH FI FL FR)
set_option maxHeartbeats 4000000 in
set_option maxRecDepth 100000 in
theorem rX12_tokens_120 {sk : xK} {base N d : Nat} {K7 : Int32 → Nat → Nat → (Nat → Nat × Nat) → (Nat → Nat → Int32) → (Nat → Nat → Int64) → (Nat → Nat → Option Nat) → Unit → hS → Prop} {K53 : Int32 → Int32 → Int64 → Nat → Nat → (Nat → Nat × Nat) → (Nat → Nat → Int32) → (Nat → Nat → Int64) → (Nat → Nat → Option Nat) → Unit → hS → Prop} (hkb : x_kb sk base)  (l1i : Int32) (l3i : Int32) (s0i : Int32) (s1l : Int64) (l2i : Int32) (l4l : Int64) (l6i : Int32) (n sl : Nat) (SH : Nat → Nat × Nat) (FI : Nat → Nat → Int32) (FL : Nat → Nat → Int64) (FR : Nat → Nat → Option Nat) (hok : pk n SH FR)  (hK7 : ∀ (l1i : Int32) (l2i : Int32) (l3i : Int32) (l4i : Int32) (l4l : Int64) (l5i : Int32) (l6i : Int32) (n sl : Nat) (SH : Nat → Nat × Nat) (FI : Nat → Nat → Int32) (FL : Nat → Nat → Int64) (FR : Nat → Nat → Option Nat), pk n SH FR → pw pj_V sk base N d none 212 7 [(0, .ref (base + 121)), (1, .int (l1i)), (2, .int (l2i)), (3, .int (l3i)), (4, .int (l4i)), (4, .long (l4l)), (5, .int (l5i)), (6, .int (l6i))] [] (n, sl, SH, FI, FL, FR) (K7 l1i n sl SH FI FL FR)) (hK53 : ∀ (l1i : Int32) (l3i : Int32) (l4l : Int64) (l2i : Int32) (l6i : Int32) (n sl : Nat) (SH : Nat → Nat × Nat) (FI : Nat → Nat → Int32) (FL : Nat → Nat → Int64) (FR : Nat → Nat → Option Nat), pk n SH FR → pw pj_V sk base N d none 212 53 [(0, .ref (base + 121)), (1, .int (l1i)), (2, .int (l2i)), (3, .int (l3i)), (4, .long (l4l)), (6, .int (l6i))] [] (n, sl, SH, FI, FL, FR) (K53 l1i l3i l4l n sl SH FI FL FR)) : pw pj_V sk base N d none 212 120 [(0, .ref (base + 121)), (1, .int (l1i)), (2, .int (l2i)), (3, .int (l3i)), (4, .long (l4l)), (6, .int (l6i))] [.int (s0i), .long (s1l)] (n, sl, SH, FI, FL, FR) (RX12_tokens_120 K7 K53  l1i l3i s0i s1l n sl SH FI FL FR) := by
  unfold RX12_tokens_120
  refine pw_i2l (aX12_tokens 67 rfl) ?_
  refine pw_ladd (aX12_tokens 68 rfl) ?_
  refine pw_lstore (L2 := [(4, .long ((s1l) + ((s0i).toInt64))), (0, .ref (base + 121)), (1, .int (l1i)), (2, .int (l2i)), (3, .int (l3i)), (6, .int (l6i))]) (aX12_tokens 69 rfl) rfl ?_
  exact pw_Li (L2 := [(0, .ref (base + 121)), (1, .int (l1i)), (2, .int (l2i)), (3, .int (l3i)), (4, .long ((s1l) + ((s0i).toInt64))), (6, .int (l6i))]) [4, 0, 1, 2, 3, 5] (rX12_tokens_124 hkb  (l1i) (l3i) ((s1l) + ((s0i).toInt64)) (l2i) (l6i) n sl SH FI FL FR hok  hK7 hK53) ⟨rfl, rfl, rfl, rfl, rfl, rfl, trivial⟩
def RX12_tokens_77 (K7 : Int32 → Nat → Nat → (Nat → Nat × Nat) → (Nat → Nat → Int32) → (Nat → Nat → Int64) → (Nat → Nat → Option Nat) → Unit → hS → Prop) (K53 : Int32 → Int32 → Int64 → Nat → Nat → (Nat → Nat × Nat) → (Nat → Nat → Int32) → (Nat → Nat → Int64) → (Nat → Nat → Option Nat) → Unit → hS → Prop)  (l1i : Int32) (l3i : Int32) (l4l : Int64) (n sl : Nat) (SH : Nat → Nat × Nat) (FI : Nat → Nat → Int32) (FL : Nat → Nat → Int64) (FR : Nat → Nat → Option Nat) : Unit → hS → Prop := (P_if (((l1i) - (l3i)).toInt < ((8 : Int32)).toInt) (P_if ((fX12_isSmall (fX12_sign (l1i) SH FI FL FR) SH FI FL FR).toInt = 0) (RX12_tokens_120 K7 K53  (l1i) (l3i) ((fX12_sign (l1i) SH FI FL FR) - ((21 : Int32))) (((37 : Int64)) * (l4l)) n sl SH FI FL FR) (RX12_tokens_120 K7 K53  (l1i) (l3i) ((fX12_sign (l1i) SH FI FL FR) - ((96 : Int32))) (((37 : Int64)) * (l4l)) n sl SH FI FL FR)) (RX12_tokens_124 K7 K53  (l1i) (l3i) (l4l) n sl SH FI FL FR))
set_option maxHeartbeats 4000000 in
set_option maxRecDepth 100000 in
theorem rX12_tokens_77 {sk : xK} {base N d : Nat} {K7 : Int32 → Nat → Nat → (Nat → Nat × Nat) → (Nat → Nat → Int32) → (Nat → Nat → Int64) → (Nat → Nat → Option Nat) → Unit → hS → Prop} {K53 : Int32 → Int32 → Int64 → Nat → Nat → (Nat → Nat × Nat) → (Nat → Nat → Int32) → (Nat → Nat → Int64) → (Nat → Nat → Option Nat) → Unit → hS → Prop} (hkb : x_kb sk base)  (l1i : Int32) (l3i : Int32) (l4l : Int64) (l2i : Int32) (l6i : Int32) (n sl : Nat) (SH : Nat → Nat × Nat) (FI : Nat → Nat → Int32) (FL : Nat → Nat → Int64) (FR : Nat → Nat → Option Nat) (hok : pk n SH FR)  (hK7 : ∀ (l1i : Int32) (l2i : Int32) (l3i : Int32) (l4i : Int32) (l4l : Int64) (l5i : Int32) (l6i : Int32) (n sl : Nat) (SH : Nat → Nat × Nat) (FI : Nat → Nat → Int32) (FL : Nat → Nat → Int64) (FR : Nat → Nat → Option Nat), pk n SH FR → pw pj_V sk base N d none 212 7 [(0, .ref (base + 121)), (1, .int (l1i)), (2, .int (l2i)), (3, .int (l3i)), (4, .int (l4i)), (4, .long (l4l)), (5, .int (l5i)), (6, .int (l6i))] [] (n, sl, SH, FI, FL, FR) (K7 l1i n sl SH FI FL FR)) (hK53 : ∀ (l1i : Int32) (l3i : Int32) (l4l : Int64) (l2i : Int32) (l6i : Int32) (n sl : Nat) (SH : Nat → Nat × Nat) (FI : Nat → Nat → Int32) (FL : Nat → Nat → Int64) (FR : Nat → Nat → Option Nat), pk n SH FR → pw pj_V sk base N d none 212 53 [(0, .ref (base + 121)), (1, .int (l1i)), (2, .int (l2i)), (3, .int (l3i)), (4, .long (l4l)), (6, .int (l6i))] [] (n, sl, SH, FI, FL, FR) (K53 l1i l3i l4l n sl SH FI FL FR)) : pw pj_V sk base N d none 212 77 [(0, .ref (base + 121)), (1, .int (l1i)), (2, .int (l2i)), (3, .int (l3i)), (4, .long (l4l)), (6, .int (l6i))] [] (n, sl, SH, FI, FL, FR) (RX12_tokens_77 K7 K53  l1i l3i l4l n sl SH FI FL FR) := by
  unfold RX12_tokens_77
  refine pw_aloadn (aX12_tokens 44 rfl) rfl ?_
  refine pw_iloadn (aX12_tokens 45 rfl) rfl ?_
  refine pw_cf (pw_callV (Bs := [.int (l1i)]) (rest := []) (aX12_tokens 46 rfl) um_RX12_449 ujX12_sign wc_RX12_449.2.2.2.2 (by decide) (by decide) rfl rfl (fun d => rX12_sign hkb (l1i) n sl SH FI FL FR hok) (fun v0 n0 sl0 SH0 FI0 FL0 FR0 _ hC => ?_))
  obtain ⟨rfl, hC⟩ := hC; cases hC
  show pw _ _ _ _ _ _ _ 82 _ [.int (fX12_sign (l1i) SH FI FL FR)] _ _
  refine pw_istore (L2 := [(6, .int (fX12_sign (l1i) SH FI FL FR)), (0, .ref (base + 121)), (1, .int (l1i)), (2, .int (l2i)), (3, .int (l3i)), (4, .long (l4l))]) (aX12_tokens 47 rfl) rfl ?_
  refine pw_iloadn (aX12_tokens 48 rfl) rfl ?_
  refine pw_iloadn (aX12_tokens 49 rfl) rfl ?_
  refine pw_isub (aX12_tokens 50 rfl) ?_
  refine pw_bipush (v := (8 : Int32)) (aX12_tokens 51 rfl) rfl ?_
  refine pw_icge (tgt := 124) (aX12_tokens 52 rfl) (by decide) (fun b1 => ?_) (fun b1 => ?_)
  · skip
    refine pw_ldc2 (v := (37 : Int64)) (aX12_tokens 53 rfl) uk_RX12_455 ?_
    refine pw_lload (aX12_tokens 54 rfl) rfl ?_
    refine pw_lmul (aX12_tokens 55 rfl) ?_
    refine pw_aloadn (aX12_tokens 56 rfl) rfl ?_
    refine pw_iload (aX12_tokens 57 rfl) rfl ?_
    refine pw_cf (pw_callV (Bs := [.int (fX12_sign (l1i) SH FI FL FR)]) (rest := [.long (((37 : Int64)) * (l4l))]) (aX12_tokens 58 rfl) um_RX12_423 ujX12_isSmall wc_RX12_423.2.2.2.2 (by decide) (by decide) rfl rfl (fun d => rX12_isSmall hkb (fX12_sign (l1i) SH FI FL FR) n sl SH FI FL FR hok) (fun v2 n2 sl2 SH2 FI2 FL2 FR2 _ hC => ?_))
    obtain ⟨rfl, hC⟩ := hC; cases hC
    show pw _ _ _ _ _ _ _ 104 _ [.int (fX12_isSmall (fX12_sign (l1i) SH FI FL FR) SH FI FL FR), .long (((37 : Int64)) * (l4l))] _ _
    refine pw_ifeq (tgt := 115) (aX12_tokens 59 rfl) (by decide) (fun b3 => ?_) (fun b3 => ?_)
    · skip
      refine pw_iload (aX12_tokens 64 rfl) rfl ?_
      refine pw_bipush (v := (21 : Int32)) (aX12_tokens 65 rfl) rfl ?_
      refine pw_isub (aX12_tokens 66 rfl) ?_
      exact pw_Li (L2 := [(0, .ref (base + 121)), (1, .int (l1i)), (2, .int (l2i)), (3, .int (l3i)), (4, .long (l4l)), (6, .int (fX12_sign (l1i) SH FI FL FR))]) [5, 0, 1, 2, 3, 4] (rX12_tokens_120 hkb  (l1i) (l3i) ((fX12_sign (l1i) SH FI FL FR) - ((21 : Int32))) (((37 : Int64)) * (l4l)) (l2i) (l4l) (fX12_sign (l1i) SH FI FL FR) n sl SH FI FL FR hok  hK7 hK53) ⟨rfl, rfl, rfl, rfl, rfl, rfl, trivial⟩
    · skip
      refine pw_iload (aX12_tokens 60 rfl) rfl ?_
      refine pw_bipush (v := (96 : Int32)) (aX12_tokens 61 rfl) rfl ?_
      refine pw_isub (aX12_tokens 62 rfl) ?_
      refine pw_goto (tgt := 120) (aX12_tokens 63 rfl) (by decide) ?_
      exact pw_Li (L2 := [(0, .ref (base + 121)), (1, .int (l1i)), (2, .int (l2i)), (3, .int (l3i)), (4, .long (l4l)), (6, .int (fX12_sign (l1i) SH FI FL FR))]) [5, 0, 1, 2, 3, 4] (rX12_tokens_120 hkb  (l1i) (l3i) ((fX12_sign (l1i) SH FI FL FR) - ((96 : Int32))) (((37 : Int64)) * (l4l)) (l2i) (l4l) (fX12_sign (l1i) SH FI FL FR) n sl SH FI FL FR hok  hK7 hK53) ⟨rfl, rfl, rfl, rfl, rfl, rfl, trivial⟩
  · skip
    exact pw_Li (L2 := [(0, .ref (base + 121)), (1, .int (l1i)), (2, .int (l2i)), (3, .int (l3i)), (4, .long (l4l)), (6, .int (fX12_sign (l1i) SH FI FL FR))]) [5, 0, 1, 2, 3, 4] (rX12_tokens_124 hkb  (l1i) (l3i) (l4l) (l2i) (fX12_sign (l1i) SH FI FL FR) n sl SH FI FL FR hok  hK7 hK53) ⟨rfl, rfl, rfl, rfl, rfl, rfl, trivial⟩
def BX12_tokens_53 (K7 : Int32 → Nat → Nat → (Nat → Nat × Nat) → (Nat → Nat → Int32) → (Nat → Nat → Int64) → (Nat → Nat → Option Nat) → Unit → hS → Prop) (K53 : Int32 → Int32 → Int64 → Nat → Nat → (Nat → Nat × Nat) → (Nat → Nat → Int32) → (Nat → Nat → Int64) → (Nat → Nat → Option Nat) → Unit → hS → Prop)  (l1i : Int32) (l3i : Int32) (l4l : Int64) (n sl : Nat) (SH : Nat → Nat × Nat) (FI : Nat → Nat → Int32) (FL : Nat → Nat → Int64) (FR : Nat → Nat → Option Nat) : Unit → hS → Prop := (P_if ((fX12_isSmall (fX12_sign (l1i) SH FI FL FR) SH FI FL FR).toInt = 0) (P_if ((fX12_isDigit (fX12_sign (l1i) SH FI FL FR) SH FI FL FR).toInt = 0) (P_if (((8 : Int32)).toInt < ((l1i) - (l3i)).toInt) (P_bi (RX12_token ((6 : Int32)) ((0 : Int64)) (l3i) n sl SH FI FL FR) (fun v7 n7 sl7 SH7 FI7 FL7 FR7 => (RX12_tokens_184 K7  (l1i) n7 sl7 SH7 FI7 FL7 FR7))) (P_if ((fX12_word (l4l) SH FI FL FR).toInt = ((-1 : Int32)).toInt) (P_bi (RX12_token ((1 : Int32)) (l4l) (l3i) n sl SH FI FL FR) (fun v10 n10 sl10 SH10 FI10 FL10 FR10 => (RX12_tokens_184 K7  (l1i) n10 sl10 SH10 FI10 FL10 FR10))) (P_bi (RX12_token ((2 : Int32)) ((fX12_word (l4l) SH FI FL FR).toInt64) (l3i) n sl SH FI FL FR) (fun v12 n12 sl12 SH12 FI12 FL12 FR12 => (RX12_tokens_184 K7  (l1i) n12 sl12 SH12 FI12 FL12 FR12))))) (RX12_tokens_77 K7 K53  (l1i) (l3i) (l4l) n sl SH FI FL FR)) (RX12_tokens_77 K7 K53  (l1i) (l3i) (l4l) n sl SH FI FL FR))
set_option maxHeartbeats 4000000 in
set_option maxRecDepth 100000 in
theorem bX12_tokens_53 {sk : xK} {base N d : Nat} {K7 : Int32 → Nat → Nat → (Nat → Nat × Nat) → (Nat → Nat → Int32) → (Nat → Nat → Int64) → (Nat → Nat → Option Nat) → Unit → hS → Prop} {K53 : Int32 → Int32 → Int64 → Nat → Nat → (Nat → Nat × Nat) → (Nat → Nat → Int32) → (Nat → Nat → Int64) → (Nat → Nat → Option Nat) → Unit → hS → Prop} (hkb : x_kb sk base)  (l1i : Int32) (l3i : Int32) (l4l : Int64) (l2i : Int32) (l6i : Int32) (n sl : Nat) (SH : Nat → Nat × Nat) (FI : Nat → Nat → Int32) (FL : Nat → Nat → Int64) (FR : Nat → Nat → Option Nat) (hok : pk n SH FR)  (hK7 : ∀ (l1i : Int32) (l2i : Int32) (l3i : Int32) (l4i : Int32) (l4l : Int64) (l5i : Int32) (l6i : Int32) (n sl : Nat) (SH : Nat → Nat × Nat) (FI : Nat → Nat → Int32) (FL : Nat → Nat → Int64) (FR : Nat → Nat → Option Nat), pk n SH FR → pw pj_V sk base N d none 212 7 [(0, .ref (base + 121)), (1, .int (l1i)), (2, .int (l2i)), (3, .int (l3i)), (4, .int (l4i)), (4, .long (l4l)), (5, .int (l5i)), (6, .int (l6i))] [] (n, sl, SH, FI, FL, FR) (K7 l1i n sl SH FI FL FR)) (hK53 : ∀ (l1i : Int32) (l3i : Int32) (l4l : Int64) (l2i : Int32) (l6i : Int32) (n sl : Nat) (SH : Nat → Nat × Nat) (FI : Nat → Nat → Int32) (FL : Nat → Nat → Int64) (FR : Nat → Nat → Option Nat), pk n SH FR → pw pj_V sk base N d none 212 53 [(0, .ref (base + 121)), (1, .int (l1i)), (2, .int (l2i)), (3, .int (l3i)), (4, .long (l4l)), (6, .int (l6i))] [] (n, sl, SH, FI, FL, FR) (K53 l1i l3i l4l n sl SH FI FL FR)) : pw pj_V sk base (N + 1) d none 212 53 [(0, .ref (base + 121)), (1, .int (l1i)), (2, .int (l2i)), (3, .int (l3i)), (4, .long (l4l)), (6, .int (l6i))] [] (n, sl, SH, FI, FL, FR) (BX12_tokens_53 K7 K53  l1i l3i l4l n sl SH FI FL FR) := by
  unfold BX12_tokens_53
  refine pd_aloadn (aX12_tokens 32 rfl) rfl ?_
  refine pw_aloadn (aX12_tokens 33 rfl) rfl ?_
  refine pw_iloadn (aX12_tokens 34 rfl) rfl ?_
  refine pw_cf (pw_callV (Bs := [.int (l1i)]) (rest := [.ref (base + 121)]) (aX12_tokens 35 rfl) um_RX12_449 ujX12_sign wc_RX12_449.2.2.2.2 (by decide) (by decide) rfl rfl (fun d => rX12_sign hkb (l1i) n sl SH FI FL FR hok) (fun v0 n0 sl0 SH0 FI0 FL0 FR0 _ hC => ?_))
  obtain ⟨rfl, hC⟩ := hC; cases hC
  show pw _ _ _ _ _ _ _ 59 _ [.int (fX12_sign (l1i) SH FI FL FR), .ref (base + 121)] _ _
  refine pw_cf (pw_callV (Bs := [.int (fX12_sign (l1i) SH FI FL FR)]) (rest := []) (aX12_tokens 36 rfl) um_RX12_423 ujX12_isSmall wc_RX12_423.2.2.2.2 (by decide) (by decide) rfl rfl (fun d => rX12_isSmall hkb (fX12_sign (l1i) SH FI FL FR) n sl SH FI FL FR hok) (fun v1 n1 sl1 SH1 FI1 FL1 FR1 _ hC => ?_))
  obtain ⟨rfl, hC⟩ := hC; cases hC
  show pw _ _ _ _ _ _ _ 62 _ [.int (fX12_isSmall (fX12_sign (l1i) SH FI FL FR) SH FI FL FR)] _ _
  refine pw_ifne (tgt := 77) (aX12_tokens 37 rfl) (by decide) (fun b2 => ?_) (fun b2 => ?_)
  · skip
    refine pw_aloadn (aX12_tokens 38 rfl) rfl ?_
    refine pw_aloadn (aX12_tokens 39 rfl) rfl ?_
    refine pw_iloadn (aX12_tokens 40 rfl) rfl ?_
    refine pw_cf (pw_callV (Bs := [.int (l1i)]) (rest := [.ref (base + 121)]) (aX12_tokens 41 rfl) um_RX12_449 ujX12_sign wc_RX12_449.2.2.2.2 (by decide) (by decide) rfl rfl (fun d => rX12_sign hkb (l1i) n sl SH FI FL FR hok) (fun v3 n3 sl3 SH3 FI3 FL3 FR3 _ hC => ?_))
    obtain ⟨rfl, hC⟩ := hC; cases hC
    show pw _ _ _ _ _ _ _ 71 _ [.int (fX12_sign (l1i) SH FI FL FR), .ref (base + 121)] _ _
    refine pw_cf (pw_callV (Bs := [.int (fX12_sign (l1i) SH FI FL FR)]) (rest := []) (aX12_tokens 42 rfl) um_RX12_452 ujX12_isDigit wc_RX12_452.2.2.2.2 (by decide) (by decide) rfl rfl (fun d => rX12_isDigit hkb (fX12_sign (l1i) SH FI FL FR) n sl SH FI FL FR hok) (fun v4 n4 sl4 SH4 FI4 FL4 FR4 _ hC => ?_))
    obtain ⟨rfl, hC⟩ := hC; cases hC
    show pw _ _ _ _ _ _ _ 74 _ [.int (fX12_isDigit (fX12_sign (l1i) SH FI FL FR) SH FI FL FR)] _ _
    refine pw_ifeq (tgt := 131) (aX12_tokens 43 rfl) (by decide) (fun b5 => ?_) (fun b5 => ?_)
    · skip
      refine pw_iloadn (aX12_tokens 75 rfl) rfl ?_
      refine pw_iloadn (aX12_tokens 76 rfl) rfl ?_
      refine pw_isub (aX12_tokens 77 rfl) ?_
      refine pw_bipush (v := (8 : Int32)) (aX12_tokens 78 rfl) rfl ?_
      refine pw_icle (tgt := 150) (aX12_tokens 79 rfl) (by decide) (fun b6 => ?_) (fun b6 => ?_)
      · skip
        refine pw_aloadn (aX12_tokens 80 rfl) rfl ?_
        refine pw_bipush (v := (6 : Int32)) (aX12_tokens 81 rfl) rfl ?_
        refine pw_lconst (v := (0 : Int64)) (aX12_tokens 82 rfl) rfl ?_
        refine pw_iloadn (aX12_tokens 83 rfl) rfl ?_
        refine pw_callV (Bs := [.int ((6 : Int32)), .long ((0 : Int64)), .int (l3i)]) (rest := []) (aX12_tokens 84 rfl) um_RX12_457 ujX12_token wc_RX12_457.2.2.2.2 (by decide) (by decide) rfl rfl (fun d => rX12_token hkb ((6 : Int32)) ((0 : Int64)) (l3i) n sl SH FI FL FR hok) (fun v7 n7 sl7 SH7 FI7 FL7 FR7 hok7 _ => ?_)
        show pw _ _ _ _ _ _ _ 147 _ [] _ _
        refine pw_goto (tgt := 184) (aX12_tokens 85 rfl) (by decide) ?_
        exact pw_Li (L2 := [(0, .ref (base + 121)), (1, .int (l1i)), (2, .int (l2i)), (3, .int (l3i)), (4, .long (l4l)), (6, .int (l6i))]) [0, 1, 2, 3, 4, 5] (rX12_tokens_184 hkb  (l1i) (l2i) (l3i) (l4l) (l6i) n7 sl7 SH7 FI7 FL7 FR7 hok7  hK7) ⟨rfl, rfl, rfl, rfl, rfl, rfl, trivial⟩
      · skip
        refine pw_aloadn (aX12_tokens 86 rfl) rfl ?_
        refine pw_lload (aX12_tokens 87 rfl) rfl ?_
        refine pw_cf (pw_callV (Bs := [.long (l4l)]) (rest := []) (aX12_tokens 88 rfl) um_RX12_461 ujX12_word wc_RX12_461.2.2.2.2 (by decide) (by decide) rfl rfl (fun d => rX12_word hkb (l4l) n sl SH FI FL FR hok) (fun v8 n8 sl8 SH8 FI8 FL8 FR8 _ hC => ?_))
        obtain ⟨rfl, hC⟩ := hC; cases hC
        show pw _ _ _ _ _ _ _ 156 _ [.int (fX12_word (l4l) SH FI FL FR)] _ _
        refine pw_iconst (v := (-1 : Int32)) (aX12_tokens 89 rfl) rfl ?_
        refine pw_iceq (tgt := 176) (aX12_tokens 90 rfl) (by decide) (fun b9 => ?_) (fun b9 => ?_)
        · skip
          refine pw_aloadn (aX12_tokens 100 rfl) rfl ?_
          refine pw_iconst (v := (1 : Int32)) (aX12_tokens 101 rfl) rfl ?_
          refine pw_lload (aX12_tokens 102 rfl) rfl ?_
          refine pw_iloadn (aX12_tokens 103 rfl) rfl ?_
          refine pw_callV (Bs := [.int ((1 : Int32)), .long (l4l), .int (l3i)]) (rest := []) (aX12_tokens 104 rfl) um_RX12_457 ujX12_token wc_RX12_457.2.2.2.2 (by decide) (by decide) rfl rfl (fun d => rX12_token hkb ((1 : Int32)) (l4l) (l3i) n sl SH FI FL FR hok) (fun v10 n10 sl10 SH10 FI10 FL10 FR10 hok10 _ => ?_)
          show pw _ _ _ _ _ _ _ 184 _ [] _ _
          exact pw_Li (L2 := [(0, .ref (base + 121)), (1, .int (l1i)), (2, .int (l2i)), (3, .int (l3i)), (4, .long (l4l)), (6, .int (l6i))]) [0, 1, 2, 3, 4, 5] (rX12_tokens_184 hkb  (l1i) (l2i) (l3i) (l4l) (l6i) n10 sl10 SH10 FI10 FL10 FR10 hok10  hK7) ⟨rfl, rfl, rfl, rfl, rfl, rfl, trivial⟩
        · skip
          refine pw_aloadn (aX12_tokens 91 rfl) rfl ?_
          refine pw_iconst (v := (2 : Int32)) (aX12_tokens 92 rfl) rfl ?_
          refine pw_aloadn (aX12_tokens 93 rfl) rfl ?_
          refine pw_lload (aX12_tokens 94 rfl) rfl ?_
          refine pw_cf (pw_callV (Bs := [.long (l4l)]) (rest := [.int ((2 : Int32)), .ref (base + 121)]) (aX12_tokens 95 rfl) um_RX12_461 ujX12_word wc_RX12_461.2.2.2.2 (by decide) (by decide) rfl rfl (fun d => rX12_word hkb (l4l) n sl SH FI FL FR hok) (fun v11 n11 sl11 SH11 FI11 FL11 FR11 _ hC => ?_))
          obtain ⟨rfl, hC⟩ := hC; cases hC
          show pw _ _ _ _ _ _ _ 168 _ [.int (fX12_word (l4l) SH FI FL FR), .int ((2 : Int32)), .ref (base + 121)] _ _
          refine pw_i2l (aX12_tokens 96 rfl) ?_
          refine pw_iloadn (aX12_tokens 97 rfl) rfl ?_
          refine pw_callV (Bs := [.int ((2 : Int32)), .long ((fX12_word (l4l) SH FI FL FR).toInt64), .int (l3i)]) (rest := []) (aX12_tokens 98 rfl) um_RX12_457 ujX12_token wc_RX12_457.2.2.2.2 (by decide) (by decide) rfl rfl (fun d => rX12_token hkb ((2 : Int32)) ((fX12_word (l4l) SH FI FL FR).toInt64) (l3i) n sl SH FI FL FR hok) (fun v12 n12 sl12 SH12 FI12 FL12 FR12 hok12 _ => ?_)
          show pw _ _ _ _ _ _ _ 173 _ [] _ _
          refine pw_goto (tgt := 184) (aX12_tokens 99 rfl) (by decide) ?_
          exact pw_Li (L2 := [(0, .ref (base + 121)), (1, .int (l1i)), (2, .int (l2i)), (3, .int (l3i)), (4, .long (l4l)), (6, .int (l6i))]) [0, 1, 2, 3, 4, 5] (rX12_tokens_184 hkb  (l1i) (l2i) (l3i) (l4l) (l6i) n12 sl12 SH12 FI12 FL12 FR12 hok12  hK7) ⟨rfl, rfl, rfl, rfl, rfl, rfl, trivial⟩
    · skip
      exact pw_Li (L2 := [(0, .ref (base + 121)), (1, .int (l1i)), (2, .int (l2i)), (3, .int (l3i)), (4, .long (l4l)), (6, .int (l6i))]) [0, 1, 2, 3, 4, 5] (rX12_tokens_77 hkb  (l1i) (l3i) (l4l) (l2i) (l6i) n sl SH FI FL FR hok  hK7 hK53) ⟨rfl, rfl, rfl, rfl, rfl, rfl, trivial⟩
  · skip
    exact pw_Li (L2 := [(0, .ref (base + 121)), (1, .int (l1i)), (2, .int (l2i)), (3, .int (l3i)), (4, .long (l4l)), (6, .int (l6i))]) [0, 1, 2, 3, 4, 5] (rX12_tokens_77 hkb  (l1i) (l3i) (l4l) (l2i) (l6i) n sl SH FI FL FR hok  hK7 hK53) ⟨rfl, rfl, rfl, rfl, rfl, rfl, trivial⟩
def GX12_tokens_53 (K7 : Int32 → Nat → Nat → (Nat → Nat × Nat) → (Nat → Nat → Int32) → (Nat → Nat → Int64) → (Nat → Nat → Option Nat) → Unit → hS → Prop)  : Nat → Int32 → Int32 → Int64 → Nat → Nat → (Nat → Nat × Nat) → (Nat → Nat → Int32) → (Nat → Nat → Int64) → (Nat → Nat → Option Nat) → Unit → hS → Prop
  | 0, _, _, _, _, _, _, _, _, _ => fun _ _ => False
  | g + 1, l1i, l3i, l4l, n, sl, SH, FI, FL, FR => BX12_tokens_53 K7 (GX12_tokens_53 K7  g)  l1i l3i l4l n sl SH FI FL FR
def RX12_tokens_53 (K7 : Int32 → Nat → Nat → (Nat → Nat × Nat) → (Nat → Nat → Int32) → (Nat → Nat → Int64) → (Nat → Nat → Option Nat) → Unit → hS → Prop)  (l1i : Int32) (l3i : Int32) (l4l : Int64) (n sl : Nat) (SH : Nat → Nat × Nat) (FI : Nat → Nat → Int32) (FL : Nat → Nat → Int64) (FR : Nat → Nat → Option Nat) : Unit → hS → Prop := fun v s => ∃ g, GX12_tokens_53 K7  g l1i l3i l4l n sl SH FI FL FR v s
theorem gX12_tokens_53 {sk : xK} {base d : Nat} {K7 : Int32 → Nat → Nat → (Nat → Nat × Nat) → (Nat → Nat → Int32) → (Nat → Nat → Int64) → (Nat → Nat → Option Nat) → Unit → hS → Prop} (hkb : x_kb sk base)  (N : Nat) : (∀ (l1i : Int32) (l2i : Int32) (l3i : Int32) (l4i : Int32) (l4l : Int64) (l5i : Int32) (l6i : Int32) (n sl : Nat) (SH : Nat → Nat × Nat) (FI : Nat → Nat → Int32) (FL : Nat → Nat → Int64) (FR : Nat → Nat → Option Nat), pk n SH FR → pw pj_V sk base N d none 212 7 [(0, .ref (base + 121)), (1, .int (l1i)), (2, .int (l2i)), (3, .int (l3i)), (4, .int (l4i)), (4, .long (l4l)), (5, .int (l5i)), (6, .int (l6i))] [] (n, sl, SH, FI, FL, FR) (K7 l1i n sl SH FI FL FR)) →  ∀ (l1i : Int32) (l3i : Int32) (l4l : Int64) (l2i : Int32) (l6i : Int32) (n sl : Nat) (SH : Nat → Nat × Nat) (FI : Nat → Nat → Int32) (FL : Nat → Nat → Int64) (FR : Nat → Nat → Option Nat), pk n SH FR → pw pj_V sk base N d none 212 53 [(0, .ref (base + 121)), (1, .int (l1i)), (2, .int (l2i)), (3, .int (l3i)), (4, .long (l4l)), (6, .int (l6i))] [] (n, sl, SH, FI, FL, FR) (GX12_tokens_53 K7  (N + 1) l1i l3i l4l n sl SH FI FL FR) := by
  induction N with
  | zero => intros; exact pw_0
  | succ N ih => intro  hK7 l1i l3i l4l l2i l6i n sl SH FI FL FR hok; exact bX12_tokens_53 hkb  l1i l3i l4l l2i l6i n sl SH FI FL FR hok  (fun l1i l2i l3i l4i l4l l5i l6i n sl SH FI FL FR ok => pw_mono (hK7 l1i l2i l3i l4i l4l l5i l6i n sl SH FI FL FR ok) (Nat.le_succ _)) (ih  (fun l1i l2i l3i l4i l4l l5i l6i n sl SH FI FL FR ok => pw_mono (hK7 l1i l2i l3i l4i l4l l5i l6i n sl SH FI FL FR ok) (Nat.le_succ _)))
theorem rX12_tokens_53 {sk : xK} {base N d : Nat} {K7 : Int32 → Nat → Nat → (Nat → Nat × Nat) → (Nat → Nat → Int32) → (Nat → Nat → Int64) → (Nat → Nat → Option Nat) → Unit → hS → Prop} (hkb : x_kb sk base)  (l1i : Int32) (l3i : Int32) (l4l : Int64) (l2i : Int32) (l6i : Int32) (n sl : Nat) (SH : Nat → Nat × Nat) (FI : Nat → Nat → Int32) (FL : Nat → Nat → Int64) (FR : Nat → Nat → Option Nat) (hok : pk n SH FR)  (hK7 : ∀ (l1i : Int32) (l2i : Int32) (l3i : Int32) (l4i : Int32) (l4l : Int64) (l5i : Int32) (l6i : Int32) (n sl : Nat) (SH : Nat → Nat × Nat) (FI : Nat → Nat → Int32) (FL : Nat → Nat → Int64) (FR : Nat → Nat → Option Nat), pk n SH FR → pw pj_V sk base N d none 212 7 [(0, .ref (base + 121)), (1, .int (l1i)), (2, .int (l2i)), (3, .int (l3i)), (4, .int (l4i)), (4, .long (l4l)), (5, .int (l5i)), (6, .int (l6i))] [] (n, sl, SH, FI, FL, FR) (K7 l1i n sl SH FI FL FR)) : pw pj_V sk base N d none 212 53 [(0, .ref (base + 121)), (1, .int (l1i)), (2, .int (l2i)), (3, .int (l3i)), (4, .long (l4l)), (6, .int (l6i))] [] (n, sl, SH, FI, FL, FR) (RX12_tokens_53 K7  l1i l3i l4l n sl SH FI FL FR) := pw_cons (gX12_tokens_53 hkb  N  hK7 l1i l3i l4l l2i l6i n sl SH FI FL FR hok) (fun _ _ h => ⟨_, h⟩)
def BX12_tokens_7 (K7 : Int32 → Nat → Nat → (Nat → Nat × Nat) → (Nat → Nat → Int32) → (Nat → Nat → Int64) → (Nat → Nat → Option Nat) → Unit → hS → Prop)  (l1i : Int32) (n sl : Nat) (SH : Nat → Nat × Nat) (FI : Nat → Nat → Int32) (FL : Nat → Nat → Int64) (FR : Nat → Nat → Option Nat) : Unit → hS → Prop := (P_if ((l1i).toInt < (FI 121 13).toInt) (P_if ((fX12_sign (l1i) SH FI FL FR).toInt = ((32 : Int32)).toInt) (RX12_tokens_35 K7  (l1i) n sl SH FI FL FR) (P_if ((fX12_sign (l1i) SH FI FL FR).toInt = ((10 : Int32)).toInt) (RX12_tokens_35 K7  (l1i) n sl SH FI FL FR) (P_if ((fX12_isSmall (fX12_sign (l1i) SH FI FL FR) SH FI FL FR).toInt = 0) (P_if ((fX12_isDigit (fX12_sign (l1i) SH FI FL FR) SH FI FL FR).toInt = 0) (P_if ((fX12_sign (l1i) SH FI FL FR).toInt = ((64 : Int32)).toInt) (P_if ((fX12_sign ((l1i) + ((1 : Int32))) SH FI FL FR).toInt < ((49 : Int32)).toInt) (RX12_tokens_313 K7  (l1i) (l1i) (fX12_sign ((l1i) + ((1 : Int32))) SH FI FL FR) n sl SH FI FL FR) (P_if (((56 : Int32)).toInt < (fX12_sign ((l1i) + ((1 : Int32))) SH FI FL FR).toInt) (RX12_tokens_313 K7  (l1i) (l1i) (fX12_sign ((l1i) + ((1 : Int32))) SH FI FL FR) n sl SH FI FL FR) (RX12_tokens_314 K7  (l1i) (l1i) (fX12_sign ((l1i) + ((1 : Int32))) SH FI FL FR) ((1 : Int32)) n sl SH FI FL FR))) (P_bi (RX12_signs (fX12_sign (l1i) SH FI FL FR) (l1i) n sl SH FI FL FR) (fun v12 n12 sl12 SH12 FI12 FL12 FR12 => (RX12_tokens_363 K7  ((l1i) + (v12)) n12 sl12 SH12 FI12 FL12 FR12)))) (RX12_tokens_198 K7  (l1i) (l1i) ((0 : Int64)) n sl SH FI FL FR)) (RX12_tokens_53 K7  (l1i) (l1i) ((0 : Int64)) n sl SH FI FL FR)))) (P_bi (RX12_token ((0 : Int32)) ((0 : Int64)) (FI 121 13) n sl SH FI FL FR) (fun v13 n13 sl13 SH13 FI13 FL13 FR13 => (P_ret () (n13, sl13, SH13, FI13, FL13, FR13)))))
set_option maxHeartbeats 4000000 in
set_option maxRecDepth 100000 in
theorem bX12_tokens_7 {sk : xK} {base N d : Nat} {K7 : Int32 → Nat → Nat → (Nat → Nat × Nat) → (Nat → Nat → Int32) → (Nat → Nat → Int64) → (Nat → Nat → Option Nat) → Unit → hS → Prop} (hkb : x_kb sk base)  (l1i : Int32) (l2i : Int32) (l3i : Int32) (l4i : Int32) (l4l : Int64) (l5i : Int32) (l6i : Int32) (n sl : Nat) (SH : Nat → Nat × Nat) (FI : Nat → Nat → Int32) (FL : Nat → Nat → Int64) (FR : Nat → Nat → Option Nat) (hok : pk n SH FR)  (hK7 : ∀ (l1i : Int32) (l2i : Int32) (l3i : Int32) (l4i : Int32) (l4l : Int64) (l5i : Int32) (l6i : Int32) (n sl : Nat) (SH : Nat → Nat × Nat) (FI : Nat → Nat → Int32) (FL : Nat → Nat → Int64) (FR : Nat → Nat → Option Nat), pk n SH FR → pw pj_V sk base N d none 212 7 [(0, .ref (base + 121)), (1, .int (l1i)), (2, .int (l2i)), (3, .int (l3i)), (4, .int (l4i)), (4, .long (l4l)), (5, .int (l5i)), (6, .int (l6i))] [] (n, sl, SH, FI, FL, FR) (K7 l1i n sl SH FI FL FR)) : pw pj_V sk base (N + 1) d none 212 7 [(0, .ref (base + 121)), (1, .int (l1i)), (2, .int (l2i)), (3, .int (l3i)), (4, .int (l4i)), (4, .long (l4l)), (5, .int (l5i)), (6, .int (l6i))] [] (n, sl, SH, FI, FL, FR) (BX12_tokens_7 K7  l1i n sl SH FI FL FR) := by
  unfold BX12_tokens_7
  refine pd_iloadn (aX12_tokens 5 rfl) rfl ?_
  refine pw_aloadn (aX12_tokens 6 rfl) rfl ?_
  refine pw_getr (v := .int (FI 121 13)) (aX12_tokens 7 rfl) uf_RX12_190 un_RX12_190 rfl ?_
  refine pw_icge (tgt := 366) (aX12_tokens 8 rfl) (by decide) (fun b0 => ?_) (fun b0 => ?_)
  · skip
    refine pw_aloadn (aX12_tokens 9 rfl) rfl ?_
    refine pw_iloadn (aX12_tokens 10 rfl) rfl ?_
    refine pw_cf (pw_callV (Bs := [.int (l1i)]) (rest := []) (aX12_tokens 11 rfl) um_RX12_449 ujX12_sign wc_RX12_449.2.2.2.2 (by decide) (by decide) rfl rfl (fun d => rX12_sign hkb (l1i) n sl SH FI FL FR hok) (fun v1 n1 sl1 SH1 FI1 FL1 FR1 _ hC => ?_))
    obtain ⟨rfl, hC⟩ := hC; cases hC
    show pw _ _ _ _ _ _ _ 20 _ [.int (fX12_sign (l1i) SH FI FL FR)] _ _
    refine pw_istoren (L2 := [(2, .int (fX12_sign (l1i) SH FI FL FR)), (0, .ref (base + 121)), (1, .int (l1i)), (3, .int (l3i)), (4, .int (l4i)), (4, .long (l4l)), (5, .int (l5i)), (6, .int (l6i))]) (aX12_tokens 12 rfl) rfl ?_
    refine pw_iloadn (aX12_tokens 13 rfl) rfl ?_
    refine pw_istoren (L2 := [(3, .int (l1i)), (2, .int (fX12_sign (l1i) SH FI FL FR)), (0, .ref (base + 121)), (1, .int (l1i)), (4, .int (l4i)), (4, .long (l4l)), (5, .int (l5i)), (6, .int (l6i))]) (aX12_tokens 14 rfl) rfl ?_
    refine pw_iloadn (aX12_tokens 15 rfl) rfl ?_
    refine pw_bipush (v := (32 : Int32)) (aX12_tokens 16 rfl) rfl ?_
    refine pw_iceq (tgt := 35) (aX12_tokens 17 rfl) (by decide) (fun b2 => ?_) (fun b2 => ?_)
    · skip
      exact pw_Li (L2 := [(0, .ref (base + 121)), (1, .int (l1i)), (2, .int (fX12_sign (l1i) SH FI FL FR)), (3, .int (l1i)), (4, .int (l4i)), (4, .long (l4l)), (5, .int (l5i)), (6, .int (l6i))]) [3, 2, 0, 1, 4, 5, 6, 7] (rX12_tokens_35 hkb  (l1i) (fX12_sign (l1i) SH FI FL FR) (l1i) (l4i) (l4l) (l5i) (l6i) n sl SH FI FL FR hok  hK7) ⟨rfl, rfl, rfl, rfl, rfl, rfl, rfl, rfl, trivial⟩
    · skip
      refine pw_iloadn (aX12_tokens 18 rfl) rfl ?_
      refine pw_bipush (v := (10 : Int32)) (aX12_tokens 19 rfl) rfl ?_
      refine pw_icne (tgt := 42) (aX12_tokens 20 rfl) (by decide) (fun b3 => ?_) (fun b3 => ?_)
      · skip
        exact pw_Li (L2 := [(0, .ref (base + 121)), (1, .int (l1i)), (2, .int (fX12_sign (l1i) SH FI FL FR)), (3, .int (l1i)), (4, .int (l4i)), (4, .long (l4l)), (5, .int (l5i)), (6, .int (l6i))]) [3, 2, 0, 1, 4, 5, 6, 7] (rX12_tokens_35 hkb  (l1i) (fX12_sign (l1i) SH FI FL FR) (l1i) (l4i) (l4l) (l5i) (l6i) n sl SH FI FL FR hok  hK7) ⟨rfl, rfl, rfl, rfl, rfl, rfl, rfl, rfl, trivial⟩
      · skip
        refine pw_aloadn (aX12_tokens 26 rfl) rfl ?_
        refine pw_iloadn (aX12_tokens 27 rfl) rfl ?_
        refine pw_cf (pw_callV (Bs := [.int (fX12_sign (l1i) SH FI FL FR)]) (rest := []) (aX12_tokens 28 rfl) um_RX12_423 ujX12_isSmall wc_RX12_423.2.2.2.2 (by decide) (by decide) rfl rfl (fun d => rX12_isSmall hkb (fX12_sign (l1i) SH FI FL FR) n sl SH FI FL FR hok) (fun v4 n4 sl4 SH4 FI4 FL4 FR4 _ hC => ?_))
        obtain ⟨rfl, hC⟩ := hC; cases hC
        show pw _ _ _ _ _ _ _ 47 _ [.int (fX12_isSmall (fX12_sign (l1i) SH FI FL FR) SH FI FL FR)] _ _
        refine pw_ifeq (tgt := 187) (aX12_tokens 29 rfl) (by decide) (fun b5 => ?_) (fun b5 => ?_)
        · skip
          refine pw_aloadn (aX12_tokens 106 rfl) rfl ?_
          refine pw_iloadn (aX12_tokens 107 rfl) rfl ?_
          refine pw_cf (pw_callV (Bs := [.int (fX12_sign (l1i) SH FI FL FR)]) (rest := []) (aX12_tokens 108 rfl) um_RX12_452 ujX12_isDigit wc_RX12_452.2.2.2.2 (by decide) (by decide) rfl rfl (fun d => rX12_isDigit hkb (fX12_sign (l1i) SH FI FL FR) n sl SH FI FL FR hok) (fun v6 n6 sl6 SH6 FI6 FL6 FR6 _ hC => ?_))
          obtain ⟨rfl, hC⟩ := hC; cases hC
          show pw _ _ _ _ _ _ _ 192 _ [.int (fX12_isDigit (fX12_sign (l1i) SH FI FL FR) SH FI FL FR)] _ _
          refine pw_ifeq (tgt := 280) (aX12_tokens 109 rfl) (by decide) (fun b7 => ?_) (fun b7 => ?_)
          · skip
            refine pw_iloadn (aX12_tokens 158 rfl) rfl ?_
            refine pw_bipush (v := (64 : Int32)) (aX12_tokens 159 rfl) rfl ?_
            refine pw_icne (tgt := 354) (aX12_tokens 160 rfl) (by decide) (fun b8 => ?_) (fun b8 => ?_)
            · skip
              refine pw_aloadn (aX12_tokens 161 rfl) rfl ?_
              refine pw_iloadn (aX12_tokens 162 rfl) rfl ?_
              refine pw_iconst (v := (1 : Int32)) (aX12_tokens 163 rfl) rfl ?_
              refine pw_iadd (aX12_tokens 164 rfl) ?_
              refine pw_cf (pw_callV (Bs := [.int ((l1i) + ((1 : Int32)))]) (rest := []) (aX12_tokens 165 rfl) um_RX12_449 ujX12_sign wc_RX12_449.2.2.2.2 (by decide) (by decide) rfl rfl (fun d => rX12_sign hkb ((l1i) + ((1 : Int32))) n sl SH FI FL FR hok) (fun v9 n9 sl9 SH9 FI9 FL9 FR9 _ hC => ?_))
              obtain ⟨rfl, hC⟩ := hC; cases hC
              show pw _ _ _ _ _ _ _ 293 _ [.int (fX12_sign ((l1i) + ((1 : Int32))) SH FI FL FR)] _ _
              refine pw_istore (L2 := [(4, .int (fX12_sign ((l1i) + ((1 : Int32))) SH FI FL FR)), (3, .int (l1i)), (2, .int (fX12_sign (l1i) SH FI FL FR)), (0, .ref (base + 121)), (1, .int (l1i)), (5, .int (l5i)), (6, .int (l6i))]) (aX12_tokens 166 rfl) rfl ?_
              refine pw_iload (aX12_tokens 167 rfl) rfl ?_
              refine pw_bipush (v := (49 : Int32)) (aX12_tokens 168 rfl) rfl ?_
              refine pw_iclt (tgt := 313) (aX12_tokens 169 rfl) (by decide) (fun b10 => ?_) (fun b10 => ?_)
              · skip
                exact pw_Li (L2 := [(0, .ref (base + 121)), (1, .int (l1i)), (2, .int (fX12_sign (l1i) SH FI FL FR)), (3, .int (l1i)), (4, .int (fX12_sign ((l1i) + ((1 : Int32))) SH FI FL FR)), (5, .int (l5i)), (6, .int (l6i))]) [4, 3, 2, 0, 1, 5, 6] (rX12_tokens_313 hkb  (l1i) (l1i) (fX12_sign ((l1i) + ((1 : Int32))) SH FI FL FR) (fX12_sign (l1i) SH FI FL FR) (l5i) (l6i) n sl SH FI FL FR hok  hK7) ⟨rfl, rfl, rfl, rfl, rfl, rfl, rfl, trivial⟩
              · skip
                refine pw_iload (aX12_tokens 170 rfl) rfl ?_
                refine pw_bipush (v := (56 : Int32)) (aX12_tokens 171 rfl) rfl ?_
                refine pw_icgt (tgt := 313) (aX12_tokens 172 rfl) (by decide) (fun b11 => ?_) (fun b11 => ?_)
                · skip
                  exact pw_Li (L2 := [(0, .ref (base + 121)), (1, .int (l1i)), (2, .int (fX12_sign (l1i) SH FI FL FR)), (3, .int (l1i)), (4, .int (fX12_sign ((l1i) + ((1 : Int32))) SH FI FL FR)), (5, .int (l5i)), (6, .int (l6i))]) [4, 3, 2, 0, 1, 5, 6] (rX12_tokens_313 hkb  (l1i) (l1i) (fX12_sign ((l1i) + ((1 : Int32))) SH FI FL FR) (fX12_sign (l1i) SH FI FL FR) (l5i) (l6i) n sl SH FI FL FR hok  hK7) ⟨rfl, rfl, rfl, rfl, rfl, rfl, rfl, trivial⟩
                · skip
                  refine pw_iconst (v := (1 : Int32)) (aX12_tokens 173 rfl) rfl ?_
                  refine pw_goto (tgt := 314) (aX12_tokens 174 rfl) (by decide) ?_
                  exact pw_Li (L2 := [(0, .ref (base + 121)), (1, .int (l1i)), (2, .int (fX12_sign (l1i) SH FI FL FR)), (3, .int (l1i)), (4, .int (fX12_sign ((l1i) + ((1 : Int32))) SH FI FL FR)), (5, .int (l5i)), (6, .int (l6i))]) [4, 3, 2, 0, 1, 5, 6] (rX12_tokens_314 hkb  (l1i) (l1i) (fX12_sign ((l1i) + ((1 : Int32))) SH FI FL FR) ((1 : Int32)) (fX12_sign (l1i) SH FI FL FR) (l5i) (l6i) n sl SH FI FL FR hok  hK7) ⟨rfl, rfl, rfl, rfl, rfl, rfl, rfl, trivial⟩
            · skip
              refine pw_iloadn (aX12_tokens 198 rfl) rfl ?_
              refine pw_aloadn (aX12_tokens 199 rfl) rfl ?_
              refine pw_iloadn (aX12_tokens 200 rfl) rfl ?_
              refine pw_iloadn (aX12_tokens 201 rfl) rfl ?_
              refine pw_callV (Bs := [.int (fX12_sign (l1i) SH FI FL FR), .int (l1i)]) (rest := [.int (l1i)]) (aX12_tokens 202 rfl) um_RX12_472 ujX12_signs wc_RX12_472.2.2.2.2 (by decide) (by decide) rfl rfl (fun d => rX12_signs hkb (fX12_sign (l1i) SH FI FL FR) (l1i) n sl SH FI FL FR hok) (fun v12 n12 sl12 SH12 FI12 FL12 FR12 hok12 _ => ?_)
              show pw _ _ _ _ _ _ _ 361 _ [.int (v12), .int (l1i)] _ _
              refine pw_iadd (aX12_tokens 203 rfl) ?_
              refine pw_istoren (L2 := [(1, .int ((l1i) + (v12))), (3, .int (l1i)), (2, .int (fX12_sign (l1i) SH FI FL FR)), (0, .ref (base + 121)), (4, .int (l4i)), (4, .long (l4l)), (5, .int (l5i)), (6, .int (l6i))]) (aX12_tokens 204 rfl) rfl ?_
              exact pw_Li (L2 := [(0, .ref (base + 121)), (1, .int ((l1i) + (v12))), (2, .int (fX12_sign (l1i) SH FI FL FR)), (3, .int (l1i)), (4, .int (l4i)), (4, .long (l4l)), (5, .int (l5i)), (6, .int (l6i))]) [1, 3, 2, 0, 4, 5, 6, 7] (rX12_tokens_363 hkb  ((l1i) + (v12)) (fX12_sign (l1i) SH FI FL FR) (l1i) (l4i) (l4l) (l5i) (l6i) n12 sl12 SH12 FI12 FL12 FR12 hok12  hK7) ⟨rfl, rfl, rfl, rfl, rfl, rfl, rfl, rfl, trivial⟩
          · skip
            refine pw_lconst (v := (0 : Int64)) (aX12_tokens 110 rfl) rfl ?_
            refine pw_lstore (L2 := [(4, .long ((0 : Int64))), (3, .int (l1i)), (2, .int (fX12_sign (l1i) SH FI FL FR)), (0, .ref (base + 121)), (1, .int (l1i)), (6, .int (l6i))]) (aX12_tokens 111 rfl) rfl ?_
            exact pw_Li (L2 := [(0, .ref (base + 121)), (1, .int (l1i)), (2, .int (fX12_sign (l1i) SH FI FL FR)), (3, .int (l1i)), (4, .long ((0 : Int64))), (6, .int (l6i))]) [4, 3, 2, 0, 1, 5] (rX12_tokens_198 hkb  (l1i) (l1i) ((0 : Int64)) (fX12_sign (l1i) SH FI FL FR) (l6i) n sl SH FI FL FR hok  hK7) ⟨rfl, rfl, rfl, rfl, rfl, rfl, trivial⟩
        · skip
          refine pw_lconst (v := (0 : Int64)) (aX12_tokens 30 rfl) rfl ?_
          refine pw_lstore (L2 := [(4, .long ((0 : Int64))), (3, .int (l1i)), (2, .int (fX12_sign (l1i) SH FI FL FR)), (0, .ref (base + 121)), (1, .int (l1i)), (6, .int (l6i))]) (aX12_tokens 31 rfl) rfl ?_
          exact pw_Li (L2 := [(0, .ref (base + 121)), (1, .int (l1i)), (2, .int (fX12_sign (l1i) SH FI FL FR)), (3, .int (l1i)), (4, .long ((0 : Int64))), (6, .int (l6i))]) [4, 3, 2, 0, 1, 5] (rX12_tokens_53 hkb  (l1i) (l1i) ((0 : Int64)) (fX12_sign (l1i) SH FI FL FR) (l6i) n sl SH FI FL FR hok  hK7) ⟨rfl, rfl, rfl, rfl, rfl, rfl, trivial⟩
  · skip
    refine pw_aloadn (aX12_tokens 206 rfl) rfl ?_
    refine pw_iconst (v := (0 : Int32)) (aX12_tokens 207 rfl) rfl ?_
    refine pw_lconst (v := (0 : Int64)) (aX12_tokens 208 rfl) rfl ?_
    refine pw_aloadn (aX12_tokens 209 rfl) rfl ?_
    refine pw_getr (v := .int (FI 121 13)) (aX12_tokens 210 rfl) uf_RX12_190 un_RX12_190 rfl ?_
    refine pw_callV (Bs := [.int ((0 : Int32)), .long ((0 : Int64)), .int (FI 121 13)]) (rest := []) (aX12_tokens 211 rfl) um_RX12_457 ujX12_token wc_RX12_457.2.2.2.2 (by decide) (by decide) rfl rfl (fun d => rX12_token hkb ((0 : Int32)) ((0 : Int64)) (FI 121 13) n sl SH FI FL FR hok) (fun v13 n13 sl13 SH13 FI13 FL13 FR13 hok13 _ => ?_)
    show pw _ _ _ _ _ _ _ 376 _ [] _ _
    exact pw_vret (aX12_tokens 212 rfl) hok13
def GX12_tokens_7   : Nat → Int32 → Nat → Nat → (Nat → Nat × Nat) → (Nat → Nat → Int32) → (Nat → Nat → Int64) → (Nat → Nat → Option Nat) → Unit → hS → Prop
  | 0, _, _, _, _, _, _, _ => fun _ _ => False
  | g + 1, l1i, n, sl, SH, FI, FL, FR => BX12_tokens_7  (GX12_tokens_7   g)  l1i n sl SH FI FL FR
def RX12_tokens_7   (l1i : Int32) (n sl : Nat) (SH : Nat → Nat × Nat) (FI : Nat → Nat → Int32) (FL : Nat → Nat → Int64) (FR : Nat → Nat → Option Nat) : Unit → hS → Prop := fun v s => ∃ g, GX12_tokens_7   g l1i n sl SH FI FL FR v s
theorem gX12_tokens_7 {sk : xK} {base d : Nat}  (hkb : x_kb sk base)  (N : Nat) :  ∀ (l1i : Int32) (l2i : Int32) (l3i : Int32) (l4i : Int32) (l4l : Int64) (l5i : Int32) (l6i : Int32) (n sl : Nat) (SH : Nat → Nat × Nat) (FI : Nat → Nat → Int32) (FL : Nat → Nat → Int64) (FR : Nat → Nat → Option Nat), pk n SH FR → pw pj_V sk base N d none 212 7 [(0, .ref (base + 121)), (1, .int (l1i)), (2, .int (l2i)), (3, .int (l3i)), (4, .int (l4i)), (4, .long (l4l)), (5, .int (l5i)), (6, .int (l6i))] [] (n, sl, SH, FI, FL, FR) (GX12_tokens_7   (N + 1) l1i n sl SH FI FL FR) := by
  induction N with
  | zero => intros; exact pw_0
  | succ N ih => intro   l1i l2i l3i l4i l4l l5i l6i n sl SH FI FL FR hok; exact bX12_tokens_7 hkb  l1i l2i l3i l4i l4l l5i l6i n sl SH FI FL FR hok  (ih  )
theorem rX12_tokens_7 {sk : xK} {base N d : Nat}  (hkb : x_kb sk base)  (l1i : Int32) (l2i : Int32) (l3i : Int32) (l4i : Int32) (l4l : Int64) (l5i : Int32) (l6i : Int32) (n sl : Nat) (SH : Nat → Nat × Nat) (FI : Nat → Nat → Int32) (FL : Nat → Nat → Int64) (FR : Nat → Nat → Option Nat) (hok : pk n SH FR)   : pw pj_V sk base N d none 212 7 [(0, .ref (base + 121)), (1, .int (l1i)), (2, .int (l2i)), (3, .int (l3i)), (4, .int (l4i)), (4, .long (l4l)), (5, .int (l5i)), (6, .int (l6i))] [] (n, sl, SH, FI, FL, FR) (RX12_tokens_7   l1i n sl SH FI FL FR) := pw_cons (gX12_tokens_7 hkb  N   l1i l2i l3i l4i l4l l5i l6i n sl SH FI FL FR hok) (fun _ _ h => ⟨_, h⟩)
def RX12_tokens  (n sl : Nat) (SH : Nat → Nat × Nat) (FI : Nat → Nat → Int32) (FL : Nat → Nat → Int64) (FR : Nat → Nat → Option Nat) : Unit → hS → Prop := (RX12_tokens_7   ((0 : Int32)) n sl SH (h_up FI 121 67 ((0 : Int32))) FL FR)
set_option maxHeartbeats 4000000 in
set_option maxRecDepth 100000 in
theorem rX12_tokens {sk : xK} {base N d : Nat} (hkb : x_kb sk base)  (n sl : Nat) (SH : Nat → Nat × Nat) (FI : Nat → Nat → Int32) (FL : Nat → Nat → Int64) (FR : Nat → Nat → Option Nat) (hok : pk n SH FR)  : pw pj_V sk base N d none 212 0 [(0, .ref (base + 121))] [] (n, sl, SH, FI, FL, FR) (RX12_tokens  n sl SH FI FL FR) := by
  unfold RX12_tokens
  refine pw_aloadn (aX12_tokens 0 rfl) rfl ?_
  refine pw_iconst (v := (0 : Int32)) (aX12_tokens 1 rfl) rfl ?_
  refine pw_putri (aX12_tokens 2 rfl) uf_RX12_446 (fun _ _ _ => rfl) (fun t1 => ?_)
  refine pw_iconst (v := (0 : Int32)) (aX12_tokens 3 rfl) rfl ?_
  refine pw_istoren (L2 := [(1, .int ((0 : Int32))), (0, .ref (base + 121))]) (aX12_tokens 4 rfl) rfl ?_
  exact pw_Li (L2 := [(0, .ref (base + 121)), (1, .int ((0 : Int32))), (2, .int 0), (3, .int 0), (4, .int 0), (4, .long 0), (5, .int 0), (6, .int 0)]) [1, 0] (rX12_tokens_7 hkb  ((0 : Int32)) 0 0 0 0 0 0 n sl SH (h_up FI 121 67 ((0 : Int32))) FL FR hok  ) ⟨rfl, rfl, trivial⟩
def RX12_fail (a1 : Int32) (n sl : Nat) (SH : Nat → Nat × Nat) (FI : Nat → Nat → Int32) (FL : Nat → Nat → Int64) (FR : Nat → Nat → Option Nat) : Unit → hS → Prop := (P_if ((FI 121 69).toInt = 0) (P_and (p_in (FI 121 68) (SH 151).2) (P_ret () (n, sl, SH, (h_up (h_up FI 121 69 (a1)) 121 70 (FI 151 (FI 121 68).toInt.toNat)), FL, FR))) (P_ret () (n, sl, SH, FI, FL, FR)))
set_option maxHeartbeats 4000000 in
set_option maxRecDepth 100000 in
theorem rX12_fail {sk : xK} {base N d : Nat} (hkb : x_kb sk base) (a1 : Int32) (n sl : Nat) (SH : Nat → Nat × Nat) (FI : Nat → Nat → Int32) (FL : Nat → Nat → Int64) (FR : Nat → Nat → Option Nat) (hok : pk n SH FR)  : pw pj_V sk base N d none 214 0 [(0, .ref (base + 121)), (1, .int (a1))] [] (n, sl, SH, FI, FL, FR) (RX12_fail a1 n sl SH FI FL FR) := by
  unfold RX12_fail
  refine pw_aloadn (aX12_fail 0 rfl) rfl ?_
  refine pw_getr (v := .int (FI 121 69)) (aX12_fail 1 rfl) uf_RX12_475 un_RX12_475 rfl ?_
  refine pw_ifeq (tgt := 8) (aX12_fail 2 rfl) (by decide) (fun b0 => ?_) (fun b0 => ?_)
  · skip
    refine pw_aloadn (aX12_fail 4 rfl) rfl ?_
    refine pw_iloadn (aX12_fail 5 rfl) rfl ?_
    refine pw_putri (aX12_fail 6 rfl) uf_RX12_475 (fun _ _ _ => rfl) (fun t2 => ?_)
    refine pw_aloadn (aX12_fail 7 rfl) rfl ?_
    refine pw_aloadn (aX12_fail 8 rfl) rfl ?_
    refine pw_getr (v := .ref (base + 151)) (aX12_fail 9 rfl) uf_RX12_111 un_RX12_111 (congrArg (fun r => va_rf (h_rf base r)) (q121_64 (hok).2.1)) ?_
    refine pw_aloadn (aX12_fail 10 rfl) rfl ?_
    refine pw_getr (v := .int (FI 121 68)) (aX12_fail 11 rfl) uf_RX12_478 un_RX12_478 rfl ?_
    refine pw_ialdr (c := 151) (ix := (FI 121 68).toInt.toNat) (aX12_fail 12 rfl) rfl (fun _ => ?_)
    refine pw_putri (aX12_fail 13 rfl) uf_RX12_481 (fun _ _ _ => rfl) (fun t3 => ?_)
    exact pw_vret (aX12_fail 14 rfl) hok
  · skip
    exact pw_vret (aX12_fail 3 rfl) hok
def fX12_isSign (a1 : Int32) (SH : Nat → Nat × Nat) (FI : Nat → Nat → Int32) (FL : Nat → Nat → Int64) (FR : Nat → Nat → Option Nat) : Int32 := (if (FI 149 (FI 121 68).toInt.toNat).toInt = ((5 : Int32)).toInt then (if (FL 150 (FI 121 68).toInt.toNat).toInt = ((a1).toInt64).toInt then ((1 : Int32)) else ((0 : Int32))) else ((0 : Int32)))
set_option maxHeartbeats 4000000 in
set_option maxRecDepth 100000 in
theorem rX12_isSign {sk : xK} {base N d : Nat} (hkb : x_kb sk base) (a1 : Int32) (n sl : Nat) (SH : Nat → Nat × Nat) (FI : Nat → Nat → Int32) (FL : Nat → Nat → Int64) (FR : Nat → Nat → Option Nat) (hok : pk n SH FR)  : pw pj_I sk base N d none 215 0 [(0, .ref (base + 121)), (1, .int (a1))] [] (n, sl, SH, FI, FL, FR) (P_ret (fX12_isSign a1 SH FI FL FR) (n, sl, SH, FI, FL, FR)) := by
  unfold fX12_isSign
  refine pw_aloadn (aX12_isSign 0 rfl) rfl ?_
  refine pw_getr (v := .ref (base + 149)) (aX12_isSign 1 rfl) uf_RX12_105 un_RX12_105 (congrArg (fun r => va_rf (h_rf base r)) (q121_62 (hok).2.1)) ?_
  refine pw_aloadn (aX12_isSign 2 rfl) rfl ?_
  refine pw_getr (v := .int (FI 121 68)) (aX12_isSign 3 rfl) uf_RX12_478 un_RX12_478 rfl ?_
  refine pw_sd (pw_ialdr (c := 149) (ix := (FI 121 68).toInt.toNat) (aX12_isSign 4 rfl) rfl (fun _ => ?_))
  refine pw_iconst (v := (5 : Int32)) (aX12_isSign 5 rfl) rfl ?_
  refine pw_ite (pw_icne (tgt := 32) (aX12_isSign 6 rfl) (by decide) (fun b0 => ?_) (fun b0 => ?_))
  · skip
    refine pw_aloadn (aX12_isSign 7 rfl) rfl ?_
    refine pw_getr (v := .ref (base + 150)) (aX12_isSign 8 rfl) uf_RX12_108 un_RX12_108 (congrArg (fun r => va_rf (h_rf base r)) (q121_63 (hok).2.1)) ?_
    refine pw_aloadn (aX12_isSign 9 rfl) rfl ?_
    refine pw_getr (v := .int (FI 121 68)) (aX12_isSign 10 rfl) uf_RX12_478 un_RX12_478 rfl ?_
    refine pw_sd (pw_laldr (c := 150) (ix := (FI 121 68).toInt.toNat) (aX12_isSign 11 rfl) rfl (fun _ => ?_))
    refine pw_iloadn (aX12_isSign 12 rfl) rfl ?_
    refine pw_i2l (aX12_isSign 13 rfl) ?_
    refine pw_ite (pw_lcne (tgt := 32) (aX12_isSign 14 rfl) (aX12_isSign 15 rfl) (by decide) (fun b1 => ?_) (fun b1 => ?_))
    · skip
      refine pw_iconst (v := (1 : Int32)) (aX12_isSign 16 rfl) rfl ?_
      refine pw_goto (tgt := 33) (aX12_isSign 17 rfl) (by decide) ?_
      exact pw_iret (aX12_isSign 19 rfl) hok
    · skip
      refine pw_iconst (v := (0 : Int32)) (aX12_isSign 18 rfl) rfl ?_
      exact pw_iret (aX12_isSign 19 rfl) hok
  · skip
    refine pw_iconst (v := (0 : Int32)) (aX12_isSign 18 rfl) rfl ?_
    exact pw_iret (aX12_isSign 19 rfl) hok
def fX12_isWord (a1 : Int32) (SH : Nat → Nat × Nat) (FI : Nat → Nat → Int32) (FL : Nat → Nat → Int64) (FR : Nat → Nat → Option Nat) : Int32 := (if (FI 149 (FI 121 68).toInt.toNat).toInt = ((2 : Int32)).toInt then (if (FL 150 (FI 121 68).toInt.toNat).toInt = ((a1).toInt64).toInt then ((1 : Int32)) else ((0 : Int32))) else ((0 : Int32)))
set_option maxHeartbeats 4000000 in
set_option maxRecDepth 100000 in
theorem rX12_isWord {sk : xK} {base N d : Nat} (hkb : x_kb sk base) (a1 : Int32) (n sl : Nat) (SH : Nat → Nat × Nat) (FI : Nat → Nat → Int32) (FL : Nat → Nat → Int64) (FR : Nat → Nat → Option Nat) (hok : pk n SH FR)  : pw pj_I sk base N d none 216 0 [(0, .ref (base + 121)), (1, .int (a1))] [] (n, sl, SH, FI, FL, FR) (P_ret (fX12_isWord a1 SH FI FL FR) (n, sl, SH, FI, FL, FR)) := by
  unfold fX12_isWord
  refine pw_aloadn (aX12_isWord 0 rfl) rfl ?_
  refine pw_getr (v := .ref (base + 149)) (aX12_isWord 1 rfl) uf_RX12_105 un_RX12_105 (congrArg (fun r => va_rf (h_rf base r)) (q121_62 (hok).2.1)) ?_
  refine pw_aloadn (aX12_isWord 2 rfl) rfl ?_
  refine pw_getr (v := .int (FI 121 68)) (aX12_isWord 3 rfl) uf_RX12_478 un_RX12_478 rfl ?_
  refine pw_sd (pw_ialdr (c := 149) (ix := (FI 121 68).toInt.toNat) (aX12_isWord 4 rfl) rfl (fun _ => ?_))
  refine pw_iconst (v := (2 : Int32)) (aX12_isWord 5 rfl) rfl ?_
  refine pw_ite (pw_icne (tgt := 32) (aX12_isWord 6 rfl) (by decide) (fun b0 => ?_) (fun b0 => ?_))
  · skip
    refine pw_aloadn (aX12_isWord 7 rfl) rfl ?_
    refine pw_getr (v := .ref (base + 150)) (aX12_isWord 8 rfl) uf_RX12_108 un_RX12_108 (congrArg (fun r => va_rf (h_rf base r)) (q121_63 (hok).2.1)) ?_
    refine pw_aloadn (aX12_isWord 9 rfl) rfl ?_
    refine pw_getr (v := .int (FI 121 68)) (aX12_isWord 10 rfl) uf_RX12_478 un_RX12_478 rfl ?_
    refine pw_sd (pw_laldr (c := 150) (ix := (FI 121 68).toInt.toNat) (aX12_isWord 11 rfl) rfl (fun _ => ?_))
    refine pw_iloadn (aX12_isWord 12 rfl) rfl ?_
    refine pw_i2l (aX12_isWord 13 rfl) ?_
    refine pw_ite (pw_lcne (tgt := 32) (aX12_isWord 14 rfl) (aX12_isWord 15 rfl) (by decide) (fun b1 => ?_) (fun b1 => ?_))
    · skip
      refine pw_iconst (v := (1 : Int32)) (aX12_isWord 16 rfl) rfl ?_
      refine pw_goto (tgt := 33) (aX12_isWord 17 rfl) (by decide) ?_
      exact pw_iret (aX12_isWord 19 rfl) hok
    · skip
      refine pw_iconst (v := (0 : Int32)) (aX12_isWord 18 rfl) rfl ?_
      exact pw_iret (aX12_isWord 19 rfl) hok
  · skip
    refine pw_iconst (v := (0 : Int32)) (aX12_isWord 18 rfl) rfl ?_
    exact pw_iret (aX12_isWord 19 rfl) hok
def RX12_need (a1 : Int32) (n sl : Nat) (SH : Nat → Nat × Nat) (FI : Nat → Nat → Int32) (FL : Nat → Nat → Int64) (FR : Nat → Nat → Option Nat) : Unit → hS → Prop := (P_if ((FI 121 69).toInt = 0) (P_if ((fX12_isSign (a1) SH FI FL FR).toInt = 0) (P_bi (RX12_fail ((1 : Int32)) n sl SH FI FL FR) (fun v3 n3 sl3 SH3 FI3 FL3 FR3 => (P_ret () (n3, sl3, SH3, FI3, FL3, FR3)))) (P_ret () (n, sl, SH, (h_up FI 121 68 ((FI 121 68) + ((1 : Int32)))), FL, FR))) (P_ret () (n, sl, SH, FI, FL, FR)))
set_option maxHeartbeats 4000000 in
set_option maxRecDepth 100000 in
theorem rX12_need {sk : xK} {base N d : Nat} (hkb : x_kb sk base) (a1 : Int32) (n sl : Nat) (SH : Nat → Nat × Nat) (FI : Nat → Nat → Int32) (FL : Nat → Nat → Int64) (FR : Nat → Nat → Option Nat) (hok : pk n SH FR)  : pw pj_V sk base N d none 217 0 [(0, .ref (base + 121)), (1, .int (a1))] [] (n, sl, SH, FI, FL, FR) (RX12_need a1 n sl SH FI FL FR) := by
  unfold RX12_need
  refine pw_aloadn (aX12_need 0 rfl) rfl ?_
  refine pw_getr (v := .int (FI 121 69)) (aX12_need 1 rfl) uf_RX12_475 un_RX12_475 rfl ?_
  refine pw_ifeq (tgt := 8) (aX12_need 2 rfl) (by decide) (fun b0 => ?_) (fun b0 => ?_)
  · skip
    refine pw_aloadn (aX12_need 4 rfl) rfl ?_
    refine pw_iloadn (aX12_need 5 rfl) rfl ?_
    refine pw_cf (pw_callV (Bs := [.int (a1)]) (rest := []) (aX12_need 6 rfl) um_RX12_484 ujX12_isSign wc_RX12_484.2.2.2.2 (by decide) (by decide) rfl rfl (fun d => rX12_isSign hkb (a1) n sl SH FI FL FR hok) (fun v1 n1 sl1 SH1 FI1 FL1 FR1 _ hC => ?_))
    obtain ⟨rfl, hC⟩ := hC; cases hC
    show pw _ _ _ _ _ _ _ 13 _ [.int (fX12_isSign (a1) SH FI FL FR)] _ _
    refine pw_ifeq (tgt := 29) (aX12_need 7 rfl) (by decide) (fun b2 => ?_) (fun b2 => ?_)
    · skip
      refine pw_aloadn (aX12_need 15 rfl) rfl ?_
      refine pw_iconst (v := (1 : Int32)) (aX12_need 16 rfl) rfl ?_
      refine pw_callV (Bs := [.int ((1 : Int32))]) (rest := []) (aX12_need 17 rfl) um_RX12_487 ujX12_fail wc_RX12_487.2.2.2.2 (by decide) (by decide) rfl rfl (fun d => rX12_fail hkb ((1 : Int32)) n sl SH FI FL FR hok) (fun v3 n3 sl3 SH3 FI3 FL3 FR3 hok3 _ => ?_)
      show pw _ _ _ _ _ _ _ 34 _ [] _ _
      exact pw_vret (aX12_need 18 rfl) hok3
    · skip
      refine pw_aloadn (aX12_need 8 rfl) rfl ?_
      refine pw_aloadn (aX12_need 9 rfl) rfl ?_
      refine pw_getr (v := .int (FI 121 68)) (aX12_need 10 rfl) uf_RX12_478 un_RX12_478 rfl ?_
      refine pw_iconst (v := (1 : Int32)) (aX12_need 11 rfl) rfl ?_
      refine pw_iadd (aX12_need 12 rfl) ?_
      refine pw_putri (aX12_need 13 rfl) uf_RX12_478 (fun _ _ _ => rfl) (fun t5 => ?_)
      refine pw_goto (tgt := 34) (aX12_need 14 rfl) (by decide) ?_
      exact pw_vret (aX12_need 18 rfl) hok
  · skip
    exact pw_vret (aX12_need 3 rfl) hok
def RX12_opens  (n sl : Nat) (SH : Nat → Nat × Nat) (FI : Nat → Nat → Int32) (FL : Nat → Nat → Int64) (FR : Nat → Nat → Option Nat) : Unit → hS → Prop := (P_if ((FI 121 71).toInt = ((12 : Int32)).toInt) (P_bi (RX12_fail ((5 : Int32)) n sl SH FI FL FR) (fun v1 n1 sl1 SH1 FI1 FL1 FR1 => (P_ret () (n1, sl1, SH1, (h_up (h_up FI1 121 71 ((FI1 121 71) + ((1 : Int32)))) 121 68 ((FI1 121 68) + ((1 : Int32)))), FL1, FR1)))) (P_ret () (n, sl, SH, (h_up (h_up FI 121 71 ((FI 121 71) + ((1 : Int32)))) 121 68 ((FI 121 68) + ((1 : Int32)))), FL, FR)))
set_option maxHeartbeats 4000000 in
set_option maxRecDepth 100000 in
theorem rX12_opens {sk : xK} {base N d : Nat} (hkb : x_kb sk base)  (n sl : Nat) (SH : Nat → Nat × Nat) (FI : Nat → Nat → Int32) (FL : Nat → Nat → Int64) (FR : Nat → Nat → Option Nat) (hok : pk n SH FR)  : pw pj_V sk base N d none 218 0 [(0, .ref (base + 121))] [] (n, sl, SH, FI, FL, FR) (RX12_opens  n sl SH FI FL FR) := by
  unfold RX12_opens
  refine pw_aloadn (aX12_opens 0 rfl) rfl ?_
  refine pw_getr (v := .int (FI 121 71)) (aX12_opens 1 rfl) uf_RX12_490 un_RX12_490 rfl ?_
  refine pw_bipush (v := (12 : Int32)) (aX12_opens 2 rfl) rfl ?_
  refine pw_icne (tgt := 14) (aX12_opens 3 rfl) (by decide) (fun b0 => ?_) (fun b0 => ?_)
  · skip
    refine pw_aloadn (aX12_opens 4 rfl) rfl ?_
    refine pw_iconst (v := (5 : Int32)) (aX12_opens 5 rfl) rfl ?_
    refine pw_callV (Bs := [.int ((5 : Int32))]) (rest := []) (aX12_opens 6 rfl) um_RX12_487 ujX12_fail wc_RX12_487.2.2.2.2 (by decide) (by decide) rfl rfl (fun d => rX12_fail hkb ((5 : Int32)) n sl SH FI FL FR hok) (fun v1 n1 sl1 SH1 FI1 FL1 FR1 hok1 _ => ?_)
    show pw _ _ _ _ _ _ _ 14 _ [] _ _
    refine pw_aloadn (aX12_opens 7 rfl) rfl ?_
    refine pw_aloadn (aX12_opens 8 rfl) rfl ?_
    refine pw_getr (v := .int (FI1 121 71)) (aX12_opens 9 rfl) uf_RX12_490 un_RX12_490 rfl ?_
    refine pw_iconst (v := (1 : Int32)) (aX12_opens 10 rfl) rfl ?_
    refine pw_iadd (aX12_opens 11 rfl) ?_
    refine pw_putri (aX12_opens 12 rfl) uf_RX12_490 (fun _ _ _ => rfl) (fun t3 => ?_)
    refine pw_aloadn (aX12_opens 13 rfl) rfl ?_
    refine pw_aloadn (aX12_opens 14 rfl) rfl ?_
    refine pw_getr (v := .int (FI1 121 68)) (aX12_opens 15 rfl) uf_RX12_478 un_RX12_478 rfl ?_
    refine pw_iconst (v := (1 : Int32)) (aX12_opens 16 rfl) rfl ?_
    refine pw_iadd (aX12_opens 17 rfl) ?_
    refine pw_putri (aX12_opens 18 rfl) uf_RX12_478 (fun _ _ _ => rfl) (fun t4 => ?_)
    exact pw_vret (aX12_opens 19 rfl) hok1
  · skip
    refine pw_aloadn (aX12_opens 7 rfl) rfl ?_
    refine pw_aloadn (aX12_opens 8 rfl) rfl ?_
    refine pw_getr (v := .int (FI 121 71)) (aX12_opens 9 rfl) uf_RX12_490 un_RX12_490 rfl ?_
    refine pw_iconst (v := (1 : Int32)) (aX12_opens 10 rfl) rfl ?_
    refine pw_iadd (aX12_opens 11 rfl) ?_
    refine pw_putri (aX12_opens 12 rfl) uf_RX12_490 (fun _ _ _ => rfl) (fun t5 => ?_)
    refine pw_aloadn (aX12_opens 13 rfl) rfl ?_
    refine pw_aloadn (aX12_opens 14 rfl) rfl ?_
    refine pw_getr (v := .int (FI 121 68)) (aX12_opens 15 rfl) uf_RX12_478 un_RX12_478 rfl ?_
    refine pw_iconst (v := (1 : Int32)) (aX12_opens 16 rfl) rfl ?_
    refine pw_iadd (aX12_opens 17 rfl) ?_
    refine pw_putri (aX12_opens 18 rfl) uf_RX12_478 (fun _ _ _ => rfl) (fun t6 => ?_)
    exact pw_vret (aX12_opens 19 rfl) hok
def RX12_emit (a1 : Int32) (n sl : Nat) (SH : Nat → Nat × Nat) (FI : Nat → Nat → Int32) (FL : Nat → Nat → Int64) (FR : Nat → Nat → Option Nat) : Unit → hS → Prop := (P_if ((FI 121 73).toInt < ((4000 : Int32)).toInt) (P_and (p_in (FI 121 73) (SH 154).2) (P_ret () (n, sl, SH, (h_up (h_up FI 154 (FI 121 73).toInt.toNat ((a1) &&& ((255 : Int32)))) 121 73 ((FI 121 73) + ((1 : Int32)))), FL, FR))) (P_ret () (n, sl, SH, (h_up FI 121 73 ((FI 121 73) + ((1 : Int32)))), FL, FR)))
set_option maxHeartbeats 4000000 in
set_option maxRecDepth 100000 in
theorem rX12_emit {sk : xK} {base N d : Nat} (hkb : x_kb sk base) (a1 : Int32) (n sl : Nat) (SH : Nat → Nat × Nat) (FI : Nat → Nat → Int32) (FL : Nat → Nat → Int64) (FR : Nat → Nat → Option Nat) (hok : pk n SH FR)  : pw pj_V sk base N d none 219 0 [(0, .ref (base + 121)), (1, .int (a1))] [] (n, sl, SH, FI, FL, FR) (RX12_emit a1 n sl SH FI FL FR) := by
  unfold RX12_emit
  refine pw_aloadn (aX12_emit 0 rfl) rfl ?_
  refine pw_getr (v := .int (FI 121 73)) (aX12_emit 1 rfl) uf_RX12_493 un_RX12_493 rfl ?_
  refine pw_sipush (v := (4000 : Int32)) (aX12_emit 2 rfl) rfl ?_
  refine pw_icge (tgt := 24) (aX12_emit 3 rfl) (by decide) (fun b0 => ?_) (fun b0 => ?_)
  · skip
    refine pw_aloadn (aX12_emit 4 rfl) rfl ?_
    refine pw_getr (v := .ref (base + 154)) (aX12_emit 5 rfl) uf_RX12_120 un_RX12_120 (congrArg (fun r => va_rf (h_rf base r)) (q121_72 (hok).2.1)) ?_
    refine pw_aloadn (aX12_emit 6 rfl) rfl ?_
    refine pw_getr (v := .int (FI 121 73)) (aX12_emit 7 rfl) uf_RX12_493 un_RX12_493 rfl ?_
    refine pw_iloadn (aX12_emit 8 rfl) rfl ?_
    refine pw_sipush (v := (255 : Int32)) (aX12_emit 9 rfl) rfl ?_
    refine pw_iand (aX12_emit 10 rfl) ?_
    refine pw_iastr (c := 154) (ix := (FI 121 73).toInt.toNat) (aX12_emit 11 rfl) rfl (fun _ => ?_)
    refine pw_aloadn (aX12_emit 12 rfl) rfl ?_
    refine pw_aloadn (aX12_emit 13 rfl) rfl ?_
    refine pw_getr (v := .int (FI 121 73)) (aX12_emit 14 rfl) uf_RX12_493 un_RX12_493 rfl ?_
    refine pw_iconst (v := (1 : Int32)) (aX12_emit 15 rfl) rfl ?_
    refine pw_iadd (aX12_emit 16 rfl) ?_
    refine pw_putri (aX12_emit 17 rfl) uf_RX12_493 (fun _ _ _ => rfl) (fun t2 => ?_)
    exact pw_vret (aX12_emit 18 rfl) hok
  · skip
    refine pw_aloadn (aX12_emit 12 rfl) rfl ?_
    refine pw_aloadn (aX12_emit 13 rfl) rfl ?_
    refine pw_getr (v := .int (FI 121 73)) (aX12_emit 14 rfl) uf_RX12_493 un_RX12_493 rfl ?_
    refine pw_iconst (v := (1 : Int32)) (aX12_emit 15 rfl) rfl ?_
    refine pw_iadd (aX12_emit 16 rfl) ?_
    refine pw_putri (aX12_emit 17 rfl) uf_RX12_493 (fun _ _ _ => rfl) (fun t3 => ?_)
    exact pw_vret (aX12_emit 18 rfl) hok
def BX12_emits_3 (K3 : Int32 → Nat → Nat → (Nat → Nat × Nat) → (Nat → Nat → Int32) → (Nat → Nat → Int64) → (Nat → Nat → Option Nat) → Unit → hS → Prop) (a1 : Int64) (a2 : Int32) (l4i : Int32) (n sl : Nat) (SH : Nat → Nat × Nat) (FI : Nat → Nat → Int32) (FL : Nat → Nat → Int64) (FR : Nat → Nat → Option Nat) : Unit → hS → Prop := (P_if ((l4i).toInt < (a2).toInt) (P_bi (RX12_emit (((a1) >>> ((((8 : Int32)) * (l4i)).toInt64 &&& 63)).toInt32) n sl SH FI FL FR) (fun v1 n1 sl1 SH1 FI1 FL1 FR1 => (K3 ((l4i) + (1 : Int32)) n1 sl1 SH1 FI1 FL1 FR1))) (P_ret () (n, sl, SH, FI, FL, FR)))
set_option maxHeartbeats 4000000 in
set_option maxRecDepth 100000 in
theorem bX12_emits_3 {sk : xK} {base N d : Nat} {K3 : Int32 → Nat → Nat → (Nat → Nat × Nat) → (Nat → Nat → Int32) → (Nat → Nat → Int64) → (Nat → Nat → Option Nat) → Unit → hS → Prop} (hkb : x_kb sk base) (a1 : Int64) (a2 : Int32) (l4i : Int32)  (n sl : Nat) (SH : Nat → Nat × Nat) (FI : Nat → Nat → Int32) (FL : Nat → Nat → Int64) (FR : Nat → Nat → Option Nat) (hok : pk n SH FR)  (hK3 : ∀ (l4i : Int32) (n sl : Nat) (SH : Nat → Nat × Nat) (FI : Nat → Nat → Int32) (FL : Nat → Nat → Int64) (FR : Nat → Nat → Option Nat), pk n SH FR → pw pj_V sk base N d none 220 3 [(0, .ref (base + 121)), (1, .long (a1)), (3, .int (a2)), (4, .int (l4i))] [] (n, sl, SH, FI, FL, FR) (K3 l4i n sl SH FI FL FR)) : pw pj_V sk base (N + 1) d none 220 3 [(0, .ref (base + 121)), (1, .long (a1)), (3, .int (a2)), (4, .int (l4i))] [] (n, sl, SH, FI, FL, FR) (BX12_emits_3 K3 a1 a2 l4i n sl SH FI FL FR) := by
  unfold BX12_emits_3
  refine pd_iload (aX12_emits 2 rfl) rfl ?_
  refine pw_iloadn (aX12_emits 3 rfl) rfl ?_
  refine pw_icge (tgt := 27) (aX12_emits 4 rfl) (by decide) (fun b0 => ?_) (fun b0 => ?_)
  · skip
    refine pw_aloadn (aX12_emits 5 rfl) rfl ?_
    refine pw_lloadn (aX12_emits 6 rfl) rfl ?_
    refine pw_bipush (v := (8 : Int32)) (aX12_emits 7 rfl) rfl ?_
    refine pw_iload (aX12_emits 8 rfl) rfl ?_
    refine pw_imul (aX12_emits 9 rfl) ?_
    refine pw_lshr (aX12_emits 10 rfl) ?_
    refine pw_l2i (aX12_emits 11 rfl) ?_
    refine pw_callV (Bs := [.int (((a1) >>> ((((8 : Int32)) * (l4i)).toInt64 &&& 63)).toInt32)]) (rest := []) (aX12_emits 12 rfl) um_RX12_496 ujX12_emit wc_RX12_496.2.2.2.2 (by decide) (by decide) rfl rfl (fun d => rX12_emit hkb (((a1) >>> ((((8 : Int32)) * (l4i)).toInt64 &&& 63)).toInt32) n sl SH FI FL FR hok) (fun v1 n1 sl1 SH1 FI1 FL1 FR1 hok1 _ => ?_)
    show pw _ _ _ _ _ _ _ 21 _ [] _ _
    refine pw_iinc (v := (l4i) + (1 : Int32)) (L2 := [(4, .int ((l4i) + (1 : Int32))), (0, .ref (base + 121)), (1, .long (a1)), (3, .int (a2))]) (aX12_emits 13 rfl) rfl rfl rfl ?_
    refine pw_goto (tgt := 3) (aX12_emits 14 rfl) (by decide) ?_
    exact pw_Li (L2 := [(0, .ref (base + 121)), (1, .long (a1)), (3, .int (a2)), (4, .int ((l4i) + (1 : Int32)))]) [3, 0, 1, 2] (hK3 ((l4i) + (1 : Int32)) n1 sl1 SH1 FI1 FL1 FR1 hok1) ⟨rfl, rfl, rfl, rfl, trivial⟩
  · skip
    exact pw_vret (aX12_emits 15 rfl) hok
def GX12_emits_3  (a1 : Int64) (a2 : Int32) : Nat → Int32 → Nat → Nat → (Nat → Nat × Nat) → (Nat → Nat → Int32) → (Nat → Nat → Int64) → (Nat → Nat → Option Nat) → Unit → hS → Prop
  | 0, _, _, _, _, _, _, _ => fun _ _ => False
  | g + 1, l4i, n, sl, SH, FI, FL, FR => BX12_emits_3  (GX12_emits_3  a1 a2 g) a1 a2 l4i n sl SH FI FL FR
def RX12_emits_3  (a1 : Int64) (a2 : Int32) (l4i : Int32) (n sl : Nat) (SH : Nat → Nat × Nat) (FI : Nat → Nat → Int32) (FL : Nat → Nat → Int64) (FR : Nat → Nat → Option Nat) : Unit → hS → Prop := fun v s => ∃ g, GX12_emits_3  a1 a2 g l4i n sl SH FI FL FR v s
theorem gX12_emits_3 {sk : xK} {base d : Nat}  (hkb : x_kb sk base) (a1 : Int64) (a2 : Int32) (N : Nat) :  ∀ (l4i : Int32)  (n sl : Nat) (SH : Nat → Nat × Nat) (FI : Nat → Nat → Int32) (FL : Nat → Nat → Int64) (FR : Nat → Nat → Option Nat), pk n SH FR → pw pj_V sk base N d none 220 3 [(0, .ref (base + 121)), (1, .long (a1)), (3, .int (a2)), (4, .int (l4i))] [] (n, sl, SH, FI, FL, FR) (GX12_emits_3  a1 a2 (N + 1) l4i n sl SH FI FL FR) := by
  induction N with
  | zero => intros; exact pw_0
  | succ N ih => intro   l4i  n sl SH FI FL FR hok; exact bX12_emits_3 hkb a1 a2 l4i  n sl SH FI FL FR hok  (ih  )
theorem rX12_emits_3 {sk : xK} {base N d : Nat}  (hkb : x_kb sk base) (a1 : Int64) (a2 : Int32) (l4i : Int32)  (n sl : Nat) (SH : Nat → Nat × Nat) (FI : Nat → Nat → Int32) (FL : Nat → Nat → Int64) (FR : Nat → Nat → Option Nat) (hok : pk n SH FR)   : pw pj_V sk base N d none 220 3 [(0, .ref (base + 121)), (1, .long (a1)), (3, .int (a2)), (4, .int (l4i))] [] (n, sl, SH, FI, FL, FR) (RX12_emits_3  a1 a2 l4i n sl SH FI FL FR) := pw_cons (gX12_emits_3 hkb a1 a2 N   l4i  n sl SH FI FL FR hok) (fun _ _ h => ⟨_, h⟩)
def RX12_emits (a1 : Int64) (a2 : Int32) (n sl : Nat) (SH : Nat → Nat × Nat) (FI : Nat → Nat → Int32) (FL : Nat → Nat → Int64) (FR : Nat → Nat → Option Nat) : Unit → hS → Prop := (RX12_emits_3  a1 a2 ((0 : Int32)) n sl SH FI FL FR)
set_option maxHeartbeats 4000000 in
set_option maxRecDepth 100000 in
theorem rX12_emits {sk : xK} {base N d : Nat} (hkb : x_kb sk base) (a1 : Int64) (a2 : Int32) (n sl : Nat) (SH : Nat → Nat × Nat) (FI : Nat → Nat → Int32) (FL : Nat → Nat → Int64) (FR : Nat → Nat → Option Nat) (hok : pk n SH FR)  : pw pj_V sk base N d none 220 0 [(0, .ref (base + 121)), (1, .long (a1)), (3, .int (a2))] [] (n, sl, SH, FI, FL, FR) (RX12_emits a1 a2 n sl SH FI FL FR) := by
  unfold RX12_emits
  refine pw_iconst (v := (0 : Int32)) (aX12_emits 0 rfl) rfl ?_
  refine pw_istore (L2 := [(4, .int ((0 : Int32))), (0, .ref (base + 121)), (1, .long (a1)), (3, .int (a2))]) (aX12_emits 1 rfl) rfl ?_
  exact pw_Li (L2 := [(0, .ref (base + 121)), (1, .long (a1)), (3, .int (a2)), (4, .int ((0 : Int32)))]) [3, 0, 1, 2] (rX12_emits_3 hkb a1 a2 ((0 : Int32)) n sl SH FI FL FR hok  ) ⟨rfl, rfl, rfl, rfl, trivial⟩
def BX12_unsigned_2 (K2 : Int64 → Nat → Nat → (Nat → Nat × Nat) → (Nat → Nat → Int32) → (Nat → Nat → Int64) → (Nat → Nat → Option Nat) → Unit → hS → Prop) (a1 : Int64) (l3l : Int64) (n sl : Nat) (SH : Nat → Nat × Nat) (FI : Nat → Nat → Int32) (FL : Nat → Nat → Int64) (FR : Nat → Nat → Option Nat) : Unit → hS → Prop := (P_if (((127 : Int64)).toInt < (l3l).toInt) (P_bi (RX12_emit ((((l3l) &&& ((127 : Int64))).toInt32) ||| ((128 : Int32))) n sl SH FI FL FR) (fun v1 n1 sl1 SH1 FI1 FL1 FR1 => (K2 ((l3l) >>> (((7 : Int32)).toInt64 &&& 63)) n1 sl1 SH1 FI1 FL1 FR1))) (P_bi (RX12_emit ((l3l).toInt32) n sl SH FI FL FR) (fun v2 n2 sl2 SH2 FI2 FL2 FR2 => (P_ret () (n2, sl2, SH2, FI2, FL2, FR2)))))
set_option maxHeartbeats 4000000 in
set_option maxRecDepth 100000 in
theorem bX12_unsigned_2 {sk : xK} {base N d : Nat} {K2 : Int64 → Nat → Nat → (Nat → Nat × Nat) → (Nat → Nat → Int32) → (Nat → Nat → Int64) → (Nat → Nat → Option Nat) → Unit → hS → Prop} (hkb : x_kb sk base) (a1 : Int64) (l3l : Int64)  (n sl : Nat) (SH : Nat → Nat × Nat) (FI : Nat → Nat → Int32) (FL : Nat → Nat → Int64) (FR : Nat → Nat → Option Nat) (hok : pk n SH FR)  (hK2 : ∀ (l3l : Int64) (n sl : Nat) (SH : Nat → Nat × Nat) (FI : Nat → Nat → Int32) (FL : Nat → Nat → Int64) (FR : Nat → Nat → Option Nat), pk n SH FR → pw pj_V sk base N d none 221 2 [(0, .ref (base + 121)), (1, .long (a1)), (3, .long (l3l))] [] (n, sl, SH, FI, FL, FR) (K2 l3l n sl SH FI FL FR)) : pw pj_V sk base (N + 1) d none 221 2 [(0, .ref (base + 121)), (1, .long (a1)), (3, .long (l3l))] [] (n, sl, SH, FI, FL, FR) (BX12_unsigned_2 K2 a1 l3l n sl SH FI FL FR) := by
  unfold BX12_unsigned_2
  refine pd_lloadn (aX12_unsigned 2 rfl) rfl ?_
  refine pw_ldc2 (v := (127 : Int64)) (aX12_unsigned 3 rfl) uk_RX12_499 ?_
  refine pw_lcle (tgt := 32) (aX12_unsigned 4 rfl) (aX12_unsigned 5 rfl) (by decide) (fun b0 => ?_) (fun b0 => ?_)
  · skip
    refine pw_aloadn (aX12_unsigned 6 rfl) rfl ?_
    refine pw_lloadn (aX12_unsigned 7 rfl) rfl ?_
    refine pw_ldc2 (v := (127 : Int64)) (aX12_unsigned 8 rfl) uk_RX12_499 ?_
    refine pw_land (aX12_unsigned 9 rfl) ?_
    refine pw_l2i (aX12_unsigned 10 rfl) ?_
    refine pw_sipush (v := (128 : Int32)) (aX12_unsigned 11 rfl) rfl ?_
    refine pw_ior (aX12_unsigned 12 rfl) ?_
    refine pw_callV (Bs := [.int ((((l3l) &&& ((127 : Int64))).toInt32) ||| ((128 : Int32)))]) (rest := []) (aX12_unsigned 13 rfl) um_RX12_496 ujX12_emit wc_RX12_496.2.2.2.2 (by decide) (by decide) rfl rfl (fun d => rX12_emit hkb ((((l3l) &&& ((127 : Int64))).toInt32) ||| ((128 : Int32))) n sl SH FI FL FR hok) (fun v1 n1 sl1 SH1 FI1 FL1 FR1 hok1 _ => ?_)
    show pw _ _ _ _ _ _ _ 24 _ [] _ _
    refine pw_lloadn (aX12_unsigned 14 rfl) rfl ?_
    refine pw_bipush (v := (7 : Int32)) (aX12_unsigned 15 rfl) rfl ?_
    refine pw_lshr (aX12_unsigned 16 rfl) ?_
    refine pw_lstoren (L2 := [(3, .long ((l3l) >>> (((7 : Int32)).toInt64 &&& 63))), (0, .ref (base + 121)), (1, .long (a1))]) (aX12_unsigned 17 rfl) rfl ?_
    refine pw_goto (tgt := 2) (aX12_unsigned 18 rfl) (by decide) ?_
    exact pw_Li (L2 := [(0, .ref (base + 121)), (1, .long (a1)), (3, .long ((l3l) >>> (((7 : Int32)).toInt64 &&& 63)))]) [2, 0, 1] (hK2 ((l3l) >>> (((7 : Int32)).toInt64 &&& 63)) n1 sl1 SH1 FI1 FL1 FR1 hok1) ⟨rfl, rfl, rfl, trivial⟩
  · skip
    refine pw_aloadn (aX12_unsigned 19 rfl) rfl ?_
    refine pw_lloadn (aX12_unsigned 20 rfl) rfl ?_
    refine pw_l2i (aX12_unsigned 21 rfl) ?_
    refine pw_callV (Bs := [.int ((l3l).toInt32)]) (rest := []) (aX12_unsigned 22 rfl) um_RX12_496 ujX12_emit wc_RX12_496.2.2.2.2 (by decide) (by decide) rfl rfl (fun d => rX12_emit hkb ((l3l).toInt32) n sl SH FI FL FR hok) (fun v2 n2 sl2 SH2 FI2 FL2 FR2 hok2 _ => ?_)
    show pw _ _ _ _ _ _ _ 38 _ [] _ _
    exact pw_vret (aX12_unsigned 23 rfl) hok2
def GX12_unsigned_2  (a1 : Int64) : Nat → Int64 → Nat → Nat → (Nat → Nat × Nat) → (Nat → Nat → Int32) → (Nat → Nat → Int64) → (Nat → Nat → Option Nat) → Unit → hS → Prop
  | 0, _, _, _, _, _, _, _ => fun _ _ => False
  | g + 1, l3l, n, sl, SH, FI, FL, FR => BX12_unsigned_2  (GX12_unsigned_2  a1 g) a1 l3l n sl SH FI FL FR
def RX12_unsigned_2  (a1 : Int64) (l3l : Int64) (n sl : Nat) (SH : Nat → Nat × Nat) (FI : Nat → Nat → Int32) (FL : Nat → Nat → Int64) (FR : Nat → Nat → Option Nat) : Unit → hS → Prop := fun v s => ∃ g, GX12_unsigned_2  a1 g l3l n sl SH FI FL FR v s
theorem gX12_unsigned_2 {sk : xK} {base d : Nat}  (hkb : x_kb sk base) (a1 : Int64) (N : Nat) :  ∀ (l3l : Int64)  (n sl : Nat) (SH : Nat → Nat × Nat) (FI : Nat → Nat → Int32) (FL : Nat → Nat → Int64) (FR : Nat → Nat → Option Nat), pk n SH FR → pw pj_V sk base N d none 221 2 [(0, .ref (base + 121)), (1, .long (a1)), (3, .long (l3l))] [] (n, sl, SH, FI, FL, FR) (GX12_unsigned_2  a1 (N + 1) l3l n sl SH FI FL FR) := by
  induction N with
  | zero => intros; exact pw_0
  | succ N ih => intro   l3l  n sl SH FI FL FR hok; exact bX12_unsigned_2 hkb a1 l3l  n sl SH FI FL FR hok  (ih  )
theorem rX12_unsigned_2 {sk : xK} {base N d : Nat}  (hkb : x_kb sk base) (a1 : Int64) (l3l : Int64)  (n sl : Nat) (SH : Nat → Nat × Nat) (FI : Nat → Nat → Int32) (FL : Nat → Nat → Int64) (FR : Nat → Nat → Option Nat) (hok : pk n SH FR)   : pw pj_V sk base N d none 221 2 [(0, .ref (base + 121)), (1, .long (a1)), (3, .long (l3l))] [] (n, sl, SH, FI, FL, FR) (RX12_unsigned_2  a1 l3l n sl SH FI FL FR) := pw_cons (gX12_unsigned_2 hkb a1 N   l3l  n sl SH FI FL FR hok) (fun _ _ h => ⟨_, h⟩)
def RX12_unsigned (a1 : Int64) (n sl : Nat) (SH : Nat → Nat × Nat) (FI : Nat → Nat → Int32) (FL : Nat → Nat → Int64) (FR : Nat → Nat → Option Nat) : Unit → hS → Prop := (RX12_unsigned_2  a1 (a1) n sl SH FI FL FR)
set_option maxHeartbeats 4000000 in
set_option maxRecDepth 100000 in
theorem rX12_unsigned {sk : xK} {base N d : Nat} (hkb : x_kb sk base) (a1 : Int64) (n sl : Nat) (SH : Nat → Nat × Nat) (FI : Nat → Nat → Int32) (FL : Nat → Nat → Int64) (FR : Nat → Nat → Option Nat) (hok : pk n SH FR)  : pw pj_V sk base N d none 221 0 [(0, .ref (base + 121)), (1, .long (a1))] [] (n, sl, SH, FI, FL, FR) (RX12_unsigned a1 n sl SH FI FL FR) := by
  unfold RX12_unsigned
  refine pw_lloadn (aX12_unsigned 0 rfl) rfl ?_
  refine pw_lstoren (L2 := [(3, .long (a1)), (0, .ref (base + 121)), (1, .long (a1))]) (aX12_unsigned 1 rfl) rfl ?_
  exact pw_Li (L2 := [(0, .ref (base + 121)), (1, .long (a1)), (3, .long (a1))]) [2, 0, 1] (rX12_unsigned_2 hkb a1 (a1) n sl SH FI FL FR hok  ) ⟨rfl, rfl, rfl, trivial⟩
def RX12_signed_18 (K2 : Int64 → Nat → Nat → (Nat → Nat × Nat) → (Nat → Nat → Int32) → (Nat → Nat → Int64) → (Nat → Nat → Option Nat) → Unit → hS → Prop) (a1 : Int64) (l3l : Int64) (n sl : Nat) (SH : Nat → Nat × Nat) (FI : Nat → Nat → Int32) (FL : Nat → Nat → Int64) (FR : Nat → Nat → Option Nat) : Unit → hS → Prop := (P_bi (RX12_emit ((((l3l) &&& ((127 : Int64))).toInt32) ||| ((128 : Int32))) n sl SH FI FL FR) (fun v0 n0 sl0 SH0 FI0 FL0 FR0 => (K2 ((l3l) >>> (((7 : Int32)).toInt64 &&& 63)) n0 sl0 SH0 FI0 FL0 FR0)))
set_option maxHeartbeats 4000000 in
set_option maxRecDepth 100000 in
theorem rX12_signed_18 {sk : xK} {base N d : Nat} {K2 : Int64 → Nat → Nat → (Nat → Nat × Nat) → (Nat → Nat → Int32) → (Nat → Nat → Int64) → (Nat → Nat → Option Nat) → Unit → hS → Prop} (hkb : x_kb sk base) (a1 : Int64) (l3l : Int64)  (n sl : Nat) (SH : Nat → Nat × Nat) (FI : Nat → Nat → Int32) (FL : Nat → Nat → Int64) (FR : Nat → Nat → Option Nat) (hok : pk n SH FR)  (hK2 : ∀ (l3l : Int64) (n sl : Nat) (SH : Nat → Nat × Nat) (FI : Nat → Nat → Int32) (FL : Nat → Nat → Int64) (FR : Nat → Nat → Option Nat), pk n SH FR → pw pj_V sk base N d none 222 2 [(0, .ref (base + 121)), (1, .long (a1)), (3, .long (l3l))] [] (n, sl, SH, FI, FL, FR) (K2 l3l n sl SH FI FL FR)) : pw pj_V sk base N d none 222 18 [(0, .ref (base + 121)), (1, .long (a1)), (3, .long (l3l))] [] (n, sl, SH, FI, FL, FR) (RX12_signed_18 K2 a1 l3l n sl SH FI FL FR) := by
  unfold RX12_signed_18
  refine pw_aloadn (aX12_signed 10 rfl) rfl ?_
  refine pw_lloadn (aX12_signed 11 rfl) rfl ?_
  refine pw_ldc2 (v := (127 : Int64)) (aX12_signed 12 rfl) uk_RX12_499 ?_
  refine pw_land (aX12_signed 13 rfl) ?_
  refine pw_l2i (aX12_signed 14 rfl) ?_
  refine pw_sipush (v := (128 : Int32)) (aX12_signed 15 rfl) rfl ?_
  refine pw_ior (aX12_signed 16 rfl) ?_
  refine pw_callV (Bs := [.int ((((l3l) &&& ((127 : Int64))).toInt32) ||| ((128 : Int32)))]) (rest := []) (aX12_signed 17 rfl) um_RX12_496 ujX12_emit wc_RX12_496.2.2.2.2 (by decide) (by decide) rfl rfl (fun d => rX12_emit hkb ((((l3l) &&& ((127 : Int64))).toInt32) ||| ((128 : Int32))) n sl SH FI FL FR hok) (fun v0 n0 sl0 SH0 FI0 FL0 FR0 hok0 _ => ?_)
  show pw _ _ _ _ _ _ _ 32 _ [] _ _
  refine pw_lloadn (aX12_signed 18 rfl) rfl ?_
  refine pw_bipush (v := (7 : Int32)) (aX12_signed 19 rfl) rfl ?_
  refine pw_lshr (aX12_signed 20 rfl) ?_
  refine pw_lstoren (L2 := [(3, .long ((l3l) >>> (((7 : Int32)).toInt64 &&& 63))), (0, .ref (base + 121)), (1, .long (a1))]) (aX12_signed 21 rfl) rfl ?_
  refine pw_goto (tgt := 2) (aX12_signed 22 rfl) (by decide) ?_
  exact pw_Li (L2 := [(0, .ref (base + 121)), (1, .long (a1)), (3, .long ((l3l) >>> (((7 : Int32)).toInt64 &&& 63)))]) [2, 0, 1] (hK2 ((l3l) >>> (((7 : Int32)).toInt64 &&& 63)) n0 sl0 SH0 FI0 FL0 FR0 hok0) ⟨rfl, rfl, rfl, trivial⟩
def BX12_signed_2 (K2 : Int64 → Nat → Nat → (Nat → Nat × Nat) → (Nat → Nat → Int32) → (Nat → Nat → Int64) → (Nat → Nat → Option Nat) → Unit → hS → Prop) (a1 : Int64) (l3l : Int64) (n sl : Nat) (SH : Nat → Nat × Nat) (FI : Nat → Nat → Int32) (FL : Nat → Nat → Int64) (FR : Nat → Nat → Option Nat) : Unit → hS → Prop := (P_if ((l3l).toInt < ((-64 : Int64)).toInt) (RX12_signed_18 K2 a1 (l3l) n sl SH FI FL FR) (P_if (((63 : Int64)).toInt < (l3l).toInt) (RX12_signed_18 K2 a1 (l3l) n sl SH FI FL FR) (P_bi (RX12_emit (((l3l) &&& ((127 : Int64))).toInt32) n sl SH FI FL FR) (fun v2 n2 sl2 SH2 FI2 FL2 FR2 => (P_ret () (n2, sl2, SH2, FI2, FL2, FR2))))))
set_option maxHeartbeats 4000000 in
set_option maxRecDepth 100000 in
theorem bX12_signed_2 {sk : xK} {base N d : Nat} {K2 : Int64 → Nat → Nat → (Nat → Nat × Nat) → (Nat → Nat → Int32) → (Nat → Nat → Int64) → (Nat → Nat → Option Nat) → Unit → hS → Prop} (hkb : x_kb sk base) (a1 : Int64) (l3l : Int64)  (n sl : Nat) (SH : Nat → Nat × Nat) (FI : Nat → Nat → Int32) (FL : Nat → Nat → Int64) (FR : Nat → Nat → Option Nat) (hok : pk n SH FR)  (hK2 : ∀ (l3l : Int64) (n sl : Nat) (SH : Nat → Nat × Nat) (FI : Nat → Nat → Int32) (FL : Nat → Nat → Int64) (FR : Nat → Nat → Option Nat), pk n SH FR → pw pj_V sk base N d none 222 2 [(0, .ref (base + 121)), (1, .long (a1)), (3, .long (l3l))] [] (n, sl, SH, FI, FL, FR) (K2 l3l n sl SH FI FL FR)) : pw pj_V sk base (N + 1) d none 222 2 [(0, .ref (base + 121)), (1, .long (a1)), (3, .long (l3l))] [] (n, sl, SH, FI, FL, FR) (BX12_signed_2 K2 a1 l3l n sl SH FI FL FR) := by
  unfold BX12_signed_2
  refine pd_lloadn (aX12_signed 2 rfl) rfl ?_
  refine pw_ldc2 (v := (-64 : Int64)) (aX12_signed 3 rfl) uk_RX12_501 ?_
  refine pw_lclt (tgt := 18) (aX12_signed 4 rfl) (aX12_signed 5 rfl) (by decide) (fun b0 => ?_) (fun b0 => ?_)
  · skip
    exact pw_Li (L2 := [(0, .ref (base + 121)), (1, .long (a1)), (3, .long (l3l))]) [0, 1, 2] (rX12_signed_18 hkb a1 (l3l) n sl SH FI FL FR hok  hK2) ⟨rfl, rfl, rfl, trivial⟩
  · skip
    refine pw_lloadn (aX12_signed 6 rfl) rfl ?_
    refine pw_ldc2 (v := (63 : Int64)) (aX12_signed 7 rfl) uk_RX12_250 ?_
    refine pw_lcle (tgt := 40) (aX12_signed 8 rfl) (aX12_signed 9 rfl) (by decide) (fun b1 => ?_) (fun b1 => ?_)
    · skip
      exact pw_Li (L2 := [(0, .ref (base + 121)), (1, .long (a1)), (3, .long (l3l))]) [0, 1, 2] (rX12_signed_18 hkb a1 (l3l) n sl SH FI FL FR hok  hK2) ⟨rfl, rfl, rfl, trivial⟩
    · skip
      refine pw_aloadn (aX12_signed 23 rfl) rfl ?_
      refine pw_lloadn (aX12_signed 24 rfl) rfl ?_
      refine pw_ldc2 (v := (127 : Int64)) (aX12_signed 25 rfl) uk_RX12_499 ?_
      refine pw_land (aX12_signed 26 rfl) ?_
      refine pw_l2i (aX12_signed 27 rfl) ?_
      refine pw_callV (Bs := [.int (((l3l) &&& ((127 : Int64))).toInt32)]) (rest := []) (aX12_signed 28 rfl) um_RX12_496 ujX12_emit wc_RX12_496.2.2.2.2 (by decide) (by decide) rfl rfl (fun d => rX12_emit hkb (((l3l) &&& ((127 : Int64))).toInt32) n sl SH FI FL FR hok) (fun v2 n2 sl2 SH2 FI2 FL2 FR2 hok2 _ => ?_)
      show pw _ _ _ _ _ _ _ 50 _ [] _ _
      exact pw_vret (aX12_signed 29 rfl) hok2
def GX12_signed_2  (a1 : Int64) : Nat → Int64 → Nat → Nat → (Nat → Nat × Nat) → (Nat → Nat → Int32) → (Nat → Nat → Int64) → (Nat → Nat → Option Nat) → Unit → hS → Prop
  | 0, _, _, _, _, _, _, _ => fun _ _ => False
  | g + 1, l3l, n, sl, SH, FI, FL, FR => BX12_signed_2  (GX12_signed_2  a1 g) a1 l3l n sl SH FI FL FR
def RX12_signed_2  (a1 : Int64) (l3l : Int64) (n sl : Nat) (SH : Nat → Nat × Nat) (FI : Nat → Nat → Int32) (FL : Nat → Nat → Int64) (FR : Nat → Nat → Option Nat) : Unit → hS → Prop := fun v s => ∃ g, GX12_signed_2  a1 g l3l n sl SH FI FL FR v s
theorem gX12_signed_2 {sk : xK} {base d : Nat}  (hkb : x_kb sk base) (a1 : Int64) (N : Nat) :  ∀ (l3l : Int64)  (n sl : Nat) (SH : Nat → Nat × Nat) (FI : Nat → Nat → Int32) (FL : Nat → Nat → Int64) (FR : Nat → Nat → Option Nat), pk n SH FR → pw pj_V sk base N d none 222 2 [(0, .ref (base + 121)), (1, .long (a1)), (3, .long (l3l))] [] (n, sl, SH, FI, FL, FR) (GX12_signed_2  a1 (N + 1) l3l n sl SH FI FL FR) := by
  induction N with
  | zero => intros; exact pw_0
  | succ N ih => intro   l3l  n sl SH FI FL FR hok; exact bX12_signed_2 hkb a1 l3l  n sl SH FI FL FR hok  (ih  )
theorem rX12_signed_2 {sk : xK} {base N d : Nat}  (hkb : x_kb sk base) (a1 : Int64) (l3l : Int64)  (n sl : Nat) (SH : Nat → Nat × Nat) (FI : Nat → Nat → Int32) (FL : Nat → Nat → Int64) (FR : Nat → Nat → Option Nat) (hok : pk n SH FR)   : pw pj_V sk base N d none 222 2 [(0, .ref (base + 121)), (1, .long (a1)), (3, .long (l3l))] [] (n, sl, SH, FI, FL, FR) (RX12_signed_2  a1 l3l n sl SH FI FL FR) := pw_cons (gX12_signed_2 hkb a1 N   l3l  n sl SH FI FL FR hok) (fun _ _ h => ⟨_, h⟩)
def RX12_signed (a1 : Int64) (n sl : Nat) (SH : Nat → Nat × Nat) (FI : Nat → Nat → Int32) (FL : Nat → Nat → Int64) (FR : Nat → Nat → Option Nat) : Unit → hS → Prop := (RX12_signed_2  a1 (a1) n sl SH FI FL FR)
set_option maxHeartbeats 4000000 in
set_option maxRecDepth 100000 in
theorem rX12_signed {sk : xK} {base N d : Nat} (hkb : x_kb sk base) (a1 : Int64) (n sl : Nat) (SH : Nat → Nat × Nat) (FI : Nat → Nat → Int32) (FL : Nat → Nat → Int64) (FR : Nat → Nat → Option Nat) (hok : pk n SH FR)  : pw pj_V sk base N d none 222 0 [(0, .ref (base + 121)), (1, .long (a1))] [] (n, sl, SH, FI, FL, FR) (RX12_signed a1 n sl SH FI FL FR) := by
  unfold RX12_signed
  refine pw_lloadn (aX12_signed 0 rfl) rfl ?_
  refine pw_lstoren (L2 := [(3, .long (a1)), (0, .ref (base + 121)), (1, .long (a1))]) (aX12_signed 1 rfl) rfl ?_
  exact pw_Li (L2 := [(0, .ref (base + 121)), (1, .long (a1)), (3, .long (a1))]) [2, 0, 1] (rX12_signed_2 hkb a1 (a1) n sl SH FI FL FR hok  ) ⟨rfl, rfl, rfl, trivial⟩
def RX12_push (a1 : Int64) (n sl : Nat) (SH : Nat → Nat × Nat) (FI : Nat → Nat → Int32) (FL : Nat → Nat → Int64) (FR : Nat → Nat → Option Nat) : Unit → hS → Prop := (P_if (((31 : Int64)).toInt < (a1).toInt) (P_if (((255 : Int64)).toInt < (a1).toInt) (P_if (((65535 : Int64)).toInt < (a1).toInt) (P_if (((4294967295 : Int64)).toInt < (a1).toInt) (P_bi (RX12_emit ((14 : Int32)) n sl SH FI FL FR) (fun v4 n4 sl4 SH4 FI4 FL4 FR4 => (P_bi (RX12_emits (a1) ((8 : Int32)) n4 sl4 SH4 FI4 FL4 FR4) (fun v5 n5 sl5 SH5 FI5 FL5 FR5 => (P_ret () (n5, sl5, SH5, FI5, FL5, FR5)))))) (P_bi (RX12_emit ((12 : Int32)) n sl SH FI FL FR) (fun v6 n6 sl6 SH6 FI6 FL6 FR6 => (P_bi (RX12_emits (a1) ((4 : Int32)) n6 sl6 SH6 FI6 FL6 FR6) (fun v7 n7 sl7 SH7 FI7 FL7 FR7 => (P_ret () (n7, sl7, SH7, FI7, FL7, FR7))))))) (P_bi (RX12_emit ((10 : Int32)) n sl SH FI FL FR) (fun v8 n8 sl8 SH8 FI8 FL8 FR8 => (P_bi (RX12_emits (a1) ((2 : Int32)) n8 sl8 SH8 FI8 FL8 FR8) (fun v9 n9 sl9 SH9 FI9 FL9 FR9 => (P_ret () (n9, sl9, SH9, FI9, FL9, FR9))))))) (P_bi (RX12_emit ((8 : Int32)) n sl SH FI FL FR) (fun v10 n10 sl10 SH10 FI10 FL10 FR10 => (P_bi (RX12_emits (a1) ((1 : Int32)) n10 sl10 SH10 FI10 FL10 FR10) (fun v11 n11 sl11 SH11 FI11 FL11 FR11 => (P_ret () (n11, sl11, SH11, FI11, FL11, FR11))))))) (P_bi (RX12_emit (((48 : Int32)) + ((a1).toInt32)) n sl SH FI FL FR) (fun v12 n12 sl12 SH12 FI12 FL12 FR12 => (P_ret () (n12, sl12, SH12, FI12, FL12, FR12)))))
set_option maxHeartbeats 4000000 in
set_option maxRecDepth 100000 in
theorem rX12_push {sk : xK} {base N d : Nat} (hkb : x_kb sk base) (a1 : Int64) (n sl : Nat) (SH : Nat → Nat × Nat) (FI : Nat → Nat → Int32) (FL : Nat → Nat → Int64) (FR : Nat → Nat → Option Nat) (hok : pk n SH FR)  : pw pj_V sk base N d none 223 0 [(0, .ref (base + 121)), (1, .long (a1))] [] (n, sl, SH, FI, FL, FR) (RX12_push a1 n sl SH FI FL FR) := by
  unfold RX12_push
  refine pw_lloadn (aX12_push 0 rfl) rfl ?_
  refine pw_ldc2 (v := (31 : Int64)) (aX12_push 1 rfl) uk_RX12_310 ?_
  refine pw_lcgt (tgt := 20) (aX12_push 2 rfl) (aX12_push 3 rfl) (by decide) (fun b0 => ?_) (fun b0 => ?_)
  · skip
    refine pw_lloadn (aX12_push 11 rfl) rfl ?_
    refine pw_ldc2 (v := (255 : Int64)) (aX12_push 12 rfl) uk_RX12_503 ?_
    refine pw_lcgt (tgt := 43) (aX12_push 13 rfl) (aX12_push 14 rfl) (by decide) (fun b1 => ?_) (fun b1 => ?_)
    · skip
      refine pw_lloadn (aX12_push 23 rfl) rfl ?_
      refine pw_ldc2 (v := (65535 : Int64)) (aX12_push 24 rfl) uk_RX12_509 ?_
      refine pw_lcgt (tgt := 66) (aX12_push 25 rfl) (aX12_push 26 rfl) (by decide) (fun b2 => ?_) (fun b2 => ?_)
      · skip
        refine pw_lloadn (aX12_push 35 rfl) rfl ?_
        refine pw_ldc2 (v := (4294967295 : Int64)) (aX12_push 36 rfl) uk_RX12_511 ?_
        refine pw_lcgt (tgt := 89) (aX12_push 37 rfl) (aX12_push 38 rfl) (by decide) (fun b3 => ?_) (fun b3 => ?_)
        · skip
          refine pw_aloadn (aX12_push 47 rfl) rfl ?_
          refine pw_bipush (v := (14 : Int32)) (aX12_push 48 rfl) rfl ?_
          refine pw_callV (Bs := [.int ((14 : Int32))]) (rest := []) (aX12_push 49 rfl) um_RX12_496 ujX12_emit wc_RX12_496.2.2.2.2 (by decide) (by decide) rfl rfl (fun d => rX12_emit hkb ((14 : Int32)) n sl SH FI FL FR hok) (fun v4 n4 sl4 SH4 FI4 FL4 FR4 hok4 _ => ?_)
          show pw _ _ _ _ _ _ _ 95 _ [] _ _
          refine pw_aloadn (aX12_push 50 rfl) rfl ?_
          refine pw_lloadn (aX12_push 51 rfl) rfl ?_
          refine pw_bipush (v := (8 : Int32)) (aX12_push 52 rfl) rfl ?_
          refine pw_callV (Bs := [.long (a1), .int ((8 : Int32))]) (rest := []) (aX12_push 53 rfl) um_RX12_505 ujX12_emits wc_RX12_505.2.2.2.2 (by decide) (by decide) rfl rfl (fun d => rX12_emits hkb (a1) ((8 : Int32)) n4 sl4 SH4 FI4 FL4 FR4 hok4) (fun v5 n5 sl5 SH5 FI5 FL5 FR5 hok5 _ => ?_)
          show pw _ _ _ _ _ _ _ 102 _ [] _ _
          exact pw_vret (aX12_push 54 rfl) hok5
        · skip
          refine pw_aloadn (aX12_push 39 rfl) rfl ?_
          refine pw_bipush (v := (12 : Int32)) (aX12_push 40 rfl) rfl ?_
          refine pw_callV (Bs := [.int ((12 : Int32))]) (rest := []) (aX12_push 41 rfl) um_RX12_496 ujX12_emit wc_RX12_496.2.2.2.2 (by decide) (by decide) rfl rfl (fun d => rX12_emit hkb ((12 : Int32)) n sl SH FI FL FR hok) (fun v6 n6 sl6 SH6 FI6 FL6 FR6 hok6 _ => ?_)
          show pw _ _ _ _ _ _ _ 80 _ [] _ _
          refine pw_aloadn (aX12_push 42 rfl) rfl ?_
          refine pw_lloadn (aX12_push 43 rfl) rfl ?_
          refine pw_iconst (v := (4 : Int32)) (aX12_push 44 rfl) rfl ?_
          refine pw_callV (Bs := [.long (a1), .int ((4 : Int32))]) (rest := []) (aX12_push 45 rfl) um_RX12_505 ujX12_emits wc_RX12_505.2.2.2.2 (by decide) (by decide) rfl rfl (fun d => rX12_emits hkb (a1) ((4 : Int32)) n6 sl6 SH6 FI6 FL6 FR6 hok6) (fun v7 n7 sl7 SH7 FI7 FL7 FR7 hok7 _ => ?_)
          show pw _ _ _ _ _ _ _ 86 _ [] _ _
          refine pw_goto (tgt := 102) (aX12_push 46 rfl) (by decide) ?_
          exact pw_vret (aX12_push 54 rfl) hok7
      · skip
        refine pw_aloadn (aX12_push 27 rfl) rfl ?_
        refine pw_bipush (v := (10 : Int32)) (aX12_push 28 rfl) rfl ?_
        refine pw_callV (Bs := [.int ((10 : Int32))]) (rest := []) (aX12_push 29 rfl) um_RX12_496 ujX12_emit wc_RX12_496.2.2.2.2 (by decide) (by decide) rfl rfl (fun d => rX12_emit hkb ((10 : Int32)) n sl SH FI FL FR hok) (fun v8 n8 sl8 SH8 FI8 FL8 FR8 hok8 _ => ?_)
        show pw _ _ _ _ _ _ _ 57 _ [] _ _
        refine pw_aloadn (aX12_push 30 rfl) rfl ?_
        refine pw_lloadn (aX12_push 31 rfl) rfl ?_
        refine pw_iconst (v := (2 : Int32)) (aX12_push 32 rfl) rfl ?_
        refine pw_callV (Bs := [.long (a1), .int ((2 : Int32))]) (rest := []) (aX12_push 33 rfl) um_RX12_505 ujX12_emits wc_RX12_505.2.2.2.2 (by decide) (by decide) rfl rfl (fun d => rX12_emits hkb (a1) ((2 : Int32)) n8 sl8 SH8 FI8 FL8 FR8 hok8) (fun v9 n9 sl9 SH9 FI9 FL9 FR9 hok9 _ => ?_)
        show pw _ _ _ _ _ _ _ 63 _ [] _ _
        refine pw_goto (tgt := 102) (aX12_push 34 rfl) (by decide) ?_
        exact pw_vret (aX12_push 54 rfl) hok9
    · skip
      refine pw_aloadn (aX12_push 15 rfl) rfl ?_
      refine pw_bipush (v := (8 : Int32)) (aX12_push 16 rfl) rfl ?_
      refine pw_callV (Bs := [.int ((8 : Int32))]) (rest := []) (aX12_push 17 rfl) um_RX12_496 ujX12_emit wc_RX12_496.2.2.2.2 (by decide) (by decide) rfl rfl (fun d => rX12_emit hkb ((8 : Int32)) n sl SH FI FL FR hok) (fun v10 n10 sl10 SH10 FI10 FL10 FR10 hok10 _ => ?_)
      show pw _ _ _ _ _ _ _ 34 _ [] _ _
      refine pw_aloadn (aX12_push 18 rfl) rfl ?_
      refine pw_lloadn (aX12_push 19 rfl) rfl ?_
      refine pw_iconst (v := (1 : Int32)) (aX12_push 20 rfl) rfl ?_
      refine pw_callV (Bs := [.long (a1), .int ((1 : Int32))]) (rest := []) (aX12_push 21 rfl) um_RX12_505 ujX12_emits wc_RX12_505.2.2.2.2 (by decide) (by decide) rfl rfl (fun d => rX12_emits hkb (a1) ((1 : Int32)) n10 sl10 SH10 FI10 FL10 FR10 hok10) (fun v11 n11 sl11 SH11 FI11 FL11 FR11 hok11 _ => ?_)
      show pw _ _ _ _ _ _ _ 40 _ [] _ _
      refine pw_goto (tgt := 102) (aX12_push 22 rfl) (by decide) ?_
      exact pw_vret (aX12_push 54 rfl) hok11
  · skip
    refine pw_aloadn (aX12_push 4 rfl) rfl ?_
    refine pw_bipush (v := (48 : Int32)) (aX12_push 5 rfl) rfl ?_
    refine pw_lloadn (aX12_push 6 rfl) rfl ?_
    refine pw_l2i (aX12_push 7 rfl) ?_
    refine pw_iadd (aX12_push 8 rfl) ?_
    refine pw_callV (Bs := [.int (((48 : Int32)) + ((a1).toInt32))]) (rest := []) (aX12_push 9 rfl) um_RX12_496 ujX12_emit wc_RX12_496.2.2.2.2 (by decide) (by decide) rfl rfl (fun d => rX12_emit hkb (((48 : Int32)) + ((a1).toInt32)) n sl SH FI FL FR hok) (fun v12 n12 sl12 SH12 FI12 FL12 FR12 hok12 _ => ?_)
    show pw _ _ _ _ _ _ _ 17 _ [] _ _
    refine pw_goto (tgt := 102) (aX12_push 10 rfl) (by decide) ?_
    exact pw_vret (aX12_push 54 rfl) hok12
def RX12_later (a1 : Int32) (a2 : Int32) (n sl : Nat) (SH : Nat → Nat × Nat) (FI : Nat → Nat → Int32) (FL : Nat → Nat → Int64) (FR : Nat → Nat → Option Nat) : Unit → hS → Prop := (P_and (p_in (FI 121 90) (SH 165).2) (P_and (p_in (FI 121 90) (SH 166).2) (P_ret () (n, sl, SH, (h_up (h_up (h_up FI 165 (FI 121 90).toInt.toNat (a1)) 166 (FI 121 90).toInt.toNat (a2)) 121 90 ((FI 121 90) + ((1 : Int32)))), FL, FR))))
set_option maxHeartbeats 4000000 in
set_option maxRecDepth 100000 in
theorem rX12_later {sk : xK} {base N d : Nat} (hkb : x_kb sk base) (a1 : Int32) (a2 : Int32) (n sl : Nat) (SH : Nat → Nat × Nat) (FI : Nat → Nat → Int32) (FL : Nat → Nat → Int64) (FR : Nat → Nat → Option Nat) (hok : pk n SH FR)  : pw pj_V sk base N d none 231 0 [(0, .ref (base + 121)), (1, .int (a1)), (2, .int (a2))] [] (n, sl, SH, FI, FL, FR) (RX12_later a1 a2 n sl SH FI FL FR) := by
  unfold RX12_later
  refine pw_aloadn (aX12_later 0 rfl) rfl ?_
  refine pw_getr (v := .ref (base + 165)) (aX12_later 1 rfl) uf_RX12_154 un_RX12_154 (congrArg (fun r => va_rf (h_rf base r)) (q121_86 (hok).2.1)) ?_
  refine pw_aloadn (aX12_later 2 rfl) rfl ?_
  refine pw_getr (v := .int (FI 121 90)) (aX12_later 3 rfl) uf_RX12_556 un_RX12_556 rfl ?_
  refine pw_iloadn (aX12_later 4 rfl) rfl ?_
  refine pw_iastr (c := 165) (ix := (FI 121 90).toInt.toNat) (aX12_later 5 rfl) rfl (fun _ => ?_)
  refine pw_aloadn (aX12_later 6 rfl) rfl ?_
  refine pw_getr (v := .ref (base + 166)) (aX12_later 7 rfl) uf_RX12_157 un_RX12_157 (congrArg (fun r => va_rf (h_rf base r)) (q121_87 (hok).2.1)) ?_
  refine pw_aloadn (aX12_later 8 rfl) rfl ?_
  refine pw_getr (v := .int (FI 121 90)) (aX12_later 9 rfl) uf_RX12_556 un_RX12_556 rfl ?_
  refine pw_iloadn (aX12_later 10 rfl) rfl ?_
  refine pw_iastr (c := 166) (ix := (FI 121 90).toInt.toNat) (aX12_later 11 rfl) rfl (fun _ => ?_)
  refine pw_aloadn (aX12_later 12 rfl) rfl ?_
  refine pw_aloadn (aX12_later 13 rfl) rfl ?_
  refine pw_getr (v := .int (FI 121 90)) (aX12_later 14 rfl) uf_RX12_556 un_RX12_556 rfl ?_
  refine pw_iconst (v := (1 : Int32)) (aX12_later 15 rfl) rfl ?_
  refine pw_iadd (aX12_later 16 rfl) ?_
  refine pw_putri (aX12_later 17 rfl) uf_RX12_556 (fun _ _ _ => rfl) (fun t1 => ?_)
  exact pw_vret (aX12_later 18 rfl) hok
def fX12_tops  (SH : Nat → Nat × Nat) (FI : Nat → Nat → Int32) (FL : Nat → Nat → Int64) (FR : Nat → Nat → Option Nat) : Int32 := (if (FI 121 90).toInt = 0 then ((-11 : Int32)) else (FI 166 ((FI 121 90) - ((1 : Int32))).toInt.toNat))
set_option maxHeartbeats 4000000 in
set_option maxRecDepth 100000 in
theorem rX12_tops {sk : xK} {base N d : Nat} (hkb : x_kb sk base)  (n sl : Nat) (SH : Nat → Nat × Nat) (FI : Nat → Nat → Int32) (FL : Nat → Nat → Int64) (FR : Nat → Nat → Option Nat) (hok : pk n SH FR)  : pw pj_I sk base N d none 232 0 [(0, .ref (base + 121))] [] (n, sl, SH, FI, FL, FR) (P_ret (fX12_tops  SH FI FL FR) (n, sl, SH, FI, FL, FR)) := by
  unfold fX12_tops
  refine pw_aloadn (aX12_tops 0 rfl) rfl ?_
  refine pw_getr (v := .int (FI 121 90)) (aX12_tops 1 rfl) uf_RX12_556 un_RX12_556 rfl ?_
  refine pw_ite (pw_ifne (tgt := 12) (aX12_tops 2 rfl) (by decide) (fun b0 => ?_) (fun b0 => ?_))
  · skip
    refine pw_bipush (v := (-11 : Int32)) (aX12_tops 3 rfl) rfl ?_
    refine pw_goto (tgt := 23) (aX12_tops 4 rfl) (by decide) ?_
    exact pw_iret (aX12_tops 12 rfl) hok
  · skip
    refine pw_aloadn (aX12_tops 5 rfl) rfl ?_
    refine pw_getr (v := .ref (base + 166)) (aX12_tops 6 rfl) uf_RX12_157 un_RX12_157 (congrArg (fun r => va_rf (h_rf base r)) (q121_87 (hok).2.1)) ?_
    refine pw_aloadn (aX12_tops 7 rfl) rfl ?_
    refine pw_getr (v := .int (FI 121 90)) (aX12_tops 8 rfl) uf_RX12_556 un_RX12_556 rfl ?_
    refine pw_iconst (v := (1 : Int32)) (aX12_tops 9 rfl) rfl ?_
    refine pw_isub (aX12_tops 10 rfl) ?_
    refine pw_sd (pw_ialdr (c := 166) (ix := ((FI 121 90) - ((1 : Int32))).toInt.toNat) (aX12_tops 11 rfl) rfl (fun _ => ?_))
    exact pw_iret (aX12_tops 12 rfl) hok
def RX12_emitted (a1 : Int32) (n sl : Nat) (SH : Nat → Nat × Nat) (FI : Nat → Nat → Int32) (FL : Nat → Nat → Int64) (FR : Nat → Nat → Option Nat) : Unit → hS → Prop := (P_if ((a1).toInt < ((256 : Int32)).toInt) (P_bi (RX12_emit (a1) n sl SH FI FL FR) (fun v1 n1 sl1 SH1 FI1 FL1 FR1 => (P_ret () (n1, sl1, SH1, FI1, FL1, FR1)))) (P_bi (RX12_emit ((148 : Int32)) n sl SH FI FL FR) (fun v2 n2 sl2 SH2 FI2 FL2 FR2 => (P_bi (RX12_emit ((a1) - ((256 : Int32))) n2 sl2 SH2 FI2 FL2 FR2) (fun v3 n3 sl3 SH3 FI3 FL3 FR3 => (P_ret () (n3, sl3, SH3, FI3, FL3, FR3)))))))
set_option maxHeartbeats 4000000 in
set_option maxRecDepth 100000 in
theorem rX12_emitted {sk : xK} {base N d : Nat} (hkb : x_kb sk base) (a1 : Int32) (n sl : Nat) (SH : Nat → Nat × Nat) (FI : Nat → Nat → Int32) (FL : Nat → Nat → Int64) (FR : Nat → Nat → Option Nat) (hok : pk n SH FR)  : pw pj_V sk base N d none 233 0 [(0, .ref (base + 121)), (1, .int (a1))] [] (n, sl, SH, FI, FL, FR) (RX12_emitted a1 n sl SH FI FL FR) := by
  unfold RX12_emitted
  refine pw_iloadn (aX12_emitted 0 rfl) rfl ?_
  refine pw_sipush (v := (256 : Int32)) (aX12_emitted 1 rfl) rfl ?_
  refine pw_icge (tgt := 15) (aX12_emitted 2 rfl) (by decide) (fun b0 => ?_) (fun b0 => ?_)
  · skip
    refine pw_aloadn (aX12_emitted 3 rfl) rfl ?_
    refine pw_iloadn (aX12_emitted 4 rfl) rfl ?_
    refine pw_callV (Bs := [.int (a1)]) (rest := []) (aX12_emitted 5 rfl) um_RX12_496 ujX12_emit wc_RX12_496.2.2.2.2 (by decide) (by decide) rfl rfl (fun d => rX12_emit hkb (a1) n sl SH FI FL FR hok) (fun v1 n1 sl1 SH1 FI1 FL1 FR1 hok1 _ => ?_)
    show pw _ _ _ _ _ _ _ 12 _ [] _ _
    refine pw_goto (tgt := 31) (aX12_emitted 6 rfl) (by decide) ?_
    exact pw_vret (aX12_emitted 15 rfl) hok1
  · skip
    refine pw_aloadn (aX12_emitted 7 rfl) rfl ?_
    refine pw_sipush (v := (148 : Int32)) (aX12_emitted 8 rfl) rfl ?_
    refine pw_callV (Bs := [.int ((148 : Int32))]) (rest := []) (aX12_emitted 9 rfl) um_RX12_496 ujX12_emit wc_RX12_496.2.2.2.2 (by decide) (by decide) rfl rfl (fun d => rX12_emit hkb ((148 : Int32)) n sl SH FI FL FR hok) (fun v2 n2 sl2 SH2 FI2 FL2 FR2 hok2 _ => ?_)
    show pw _ _ _ _ _ _ _ 22 _ [] _ _
    refine pw_aloadn (aX12_emitted 10 rfl) rfl ?_
    refine pw_iloadn (aX12_emitted 11 rfl) rfl ?_
    refine pw_sipush (v := (256 : Int32)) (aX12_emitted 12 rfl) rfl ?_
    refine pw_isub (aX12_emitted 13 rfl) ?_
    refine pw_callV (Bs := [.int ((a1) - ((256 : Int32)))]) (rest := []) (aX12_emitted 14 rfl) um_RX12_496 ujX12_emit wc_RX12_496.2.2.2.2 (by decide) (by decide) rfl rfl (fun d => rX12_emit hkb ((a1) - ((256 : Int32))) n2 sl2 SH2 FI2 FL2 FR2 hok2) (fun v3 n3 sl3 SH3 FI3 FL3 FR3 hok3 _ => ?_)
    show pw _ _ _ _ _ _ _ 31 _ [] _ _
    exact pw_vret (aX12_emitted 15 rfl) hok3
def BX12_finished_0 (K0 : Nat → Nat → (Nat → Nat × Nat) → (Nat → Nat → Int32) → (Nat → Nat → Int64) → (Nat → Nat → Option Nat) → Unit → hS → Prop)   (n sl : Nat) (SH : Nat → Nat × Nat) (FI : Nat → Nat → Int32) (FL : Nat → Nat → Int64) (FR : Nat → Nat → Option Nat) : Unit → hS → Prop := (P_if ((fX12_tops  SH FI FL FR).toInt = ((9 : Int32)).toInt) (P_and (p_in ((FI 121 90) - ((1 : Int32))) (SH 165).2) (P_bi (RX12_emitted (FI 165 ((FI 121 90) - ((1 : Int32))).toInt.toNat) n sl SH (h_up (h_up FI 121 90 ((FI 121 90) - ((1 : Int32)))) 121 71 ((FI 121 71) - ((1 : Int32)))) FL FR) (fun v4 n4 sl4 SH4 FI4 FL4 FR4 => (K0  n4 sl4 SH4 FI4 FL4 FR4)))) (P_ret () (n, sl, SH, FI, FL, FR)))
set_option maxHeartbeats 4000000 in
set_option maxRecDepth 100000 in
theorem bX12_finished_0 {sk : xK} {base N d : Nat} {K0 : Nat → Nat → (Nat → Nat × Nat) → (Nat → Nat → Int32) → (Nat → Nat → Int64) → (Nat → Nat → Option Nat) → Unit → hS → Prop} (hkb : x_kb sk base)    (n sl : Nat) (SH : Nat → Nat × Nat) (FI : Nat → Nat → Int32) (FL : Nat → Nat → Int64) (FR : Nat → Nat → Option Nat) (hok : pk n SH FR)  (hK0 : ∀  (n sl : Nat) (SH : Nat → Nat × Nat) (FI : Nat → Nat → Int32) (FL : Nat → Nat → Int64) (FR : Nat → Nat → Option Nat), pk n SH FR → pw pj_V sk base N d none 234 0 [(0, .ref (base + 121))] [] (n, sl, SH, FI, FL, FR) (K0  n sl SH FI FL FR)) : pw pj_V sk base (N + 1) d none 234 0 [(0, .ref (base + 121))] [] (n, sl, SH, FI, FL, FR) (BX12_finished_0 K0   n sl SH FI FL FR) := by
  unfold BX12_finished_0
  refine pd_aloadn (aX12_finished 0 rfl) rfl ?_
  refine pw_cf (pw_callV (Bs := []) (rest := []) (aX12_finished 1 rfl) um_RX12_559 ujX12_tops wc_RX12_559.2.2.2.2 (by decide) (by decide) rfl rfl (fun d => rX12_tops hkb  n sl SH FI FL FR hok) (fun v0 n0 sl0 SH0 FI0 FL0 FR0 _ hC => ?_))
  obtain ⟨rfl, hC⟩ := hC; cases hC
  show pw _ _ _ _ _ _ _ 4 _ [.int (fX12_tops  SH FI FL FR)] _ _
  refine pw_bipush (v := (9 : Int32)) (aX12_finished 2 rfl) rfl ?_
  refine pw_icne (tgt := 45) (aX12_finished 3 rfl) (by decide) (fun b1 => ?_) (fun b1 => ?_)
  · skip
    refine pw_aloadn (aX12_finished 4 rfl) rfl ?_
    refine pw_aloadn (aX12_finished 5 rfl) rfl ?_
    refine pw_getr (v := .int (FI 121 90)) (aX12_finished 6 rfl) uf_RX12_556 un_RX12_556 rfl ?_
    refine pw_iconst (v := (1 : Int32)) (aX12_finished 7 rfl) rfl ?_
    refine pw_isub (aX12_finished 8 rfl) ?_
    refine pw_putri (aX12_finished 9 rfl) uf_RX12_556 (fun _ _ _ => rfl) (fun t3 => ?_)
    refine pw_aloadn (aX12_finished 10 rfl) rfl ?_
    refine pw_aloadn (aX12_finished 11 rfl) rfl ?_
    refine pw_getr (v := .int (FI 121 71)) (aX12_finished 12 rfl) uf_RX12_490 un_RX12_490 rfl ?_
    refine pw_iconst (v := (1 : Int32)) (aX12_finished 13 rfl) rfl ?_
    refine pw_isub (aX12_finished 14 rfl) ?_
    refine pw_putri (aX12_finished 15 rfl) uf_RX12_490 (fun _ _ _ => rfl) (fun t4 => ?_)
    refine pw_aloadn (aX12_finished 16 rfl) rfl ?_
    refine pw_aloadn (aX12_finished 17 rfl) rfl ?_
    refine pw_getr (v := .ref (base + 165)) (aX12_finished 18 rfl) uf_RX12_154 un_RX12_154 (congrArg (fun r => va_rf (h_rf base r)) (q121_86 (hok).2.1)) ?_
    refine pw_aloadn (aX12_finished 19 rfl) rfl ?_
    refine pw_getr (v := .int ((FI 121 90) - ((1 : Int32)))) (aX12_finished 20 rfl) uf_RX12_556 un_RX12_556 rfl ?_
    refine pw_ialdr (c := 165) (ix := ((FI 121 90) - ((1 : Int32))).toInt.toNat) (aX12_finished 21 rfl) rfl (fun _ => ?_)
    refine pw_callV (Bs := [.int (FI 165 ((FI 121 90) - ((1 : Int32))).toInt.toNat)]) (rest := []) (aX12_finished 22 rfl) um_RX12_563 ujX12_emitted wc_RX12_563.2.2.2.2 (by decide) (by decide) rfl rfl (fun d => rX12_emitted hkb (FI 165 ((FI 121 90) - ((1 : Int32))).toInt.toNat) n sl SH (h_up (h_up FI 121 90 ((FI 121 90) - ((1 : Int32)))) 121 71 ((FI 121 71) - ((1 : Int32)))) FL FR hok) (fun v4 n4 sl4 SH4 FI4 FL4 FR4 hok4 _ => ?_)
    show pw _ _ _ _ _ _ _ 42 _ [] _ _
    refine pw_goto (tgt := 0) (aX12_finished 23 rfl) (by decide) ?_
    exact pw_Li (L2 := [(0, .ref (base + 121))]) [0] (hK0  n4 sl4 SH4 FI4 FL4 FR4 hok4) ⟨rfl, trivial⟩
  · skip
    exact pw_vret (aX12_finished 24 rfl) hok
def GX12_finished_0   : Nat → Nat → Nat → (Nat → Nat × Nat) → (Nat → Nat → Int32) → (Nat → Nat → Int64) → (Nat → Nat → Option Nat) → Unit → hS → Prop
  | 0, _, _, _, _, _, _ => fun _ _ => False
  | g + 1, n, sl, SH, FI, FL, FR => BX12_finished_0  (GX12_finished_0   g)   n sl SH FI FL FR
def RX12_finished_0    (n sl : Nat) (SH : Nat → Nat × Nat) (FI : Nat → Nat → Int32) (FL : Nat → Nat → Int64) (FR : Nat → Nat → Option Nat) : Unit → hS → Prop := fun v s => ∃ g, GX12_finished_0   g  n sl SH FI FL FR v s
theorem gX12_finished_0 {sk : xK} {base d : Nat}  (hkb : x_kb sk base)  (N : Nat) :  ∀   (n sl : Nat) (SH : Nat → Nat × Nat) (FI : Nat → Nat → Int32) (FL : Nat → Nat → Int64) (FR : Nat → Nat → Option Nat), pk n SH FR → pw pj_V sk base N d none 234 0 [(0, .ref (base + 121))] [] (n, sl, SH, FI, FL, FR) (GX12_finished_0   (N + 1)  n sl SH FI FL FR) := by
  induction N with
  | zero => intros; exact pw_0
  | succ N ih => intro     n sl SH FI FL FR hok; exact bX12_finished_0 hkb    n sl SH FI FL FR hok  (ih  )
theorem rX12_finished_0 {sk : xK} {base N d : Nat}  (hkb : x_kb sk base)    (n sl : Nat) (SH : Nat → Nat × Nat) (FI : Nat → Nat → Int32) (FL : Nat → Nat → Int64) (FR : Nat → Nat → Option Nat) (hok : pk n SH FR)   : pw pj_V sk base N d none 234 0 [(0, .ref (base + 121))] [] (n, sl, SH, FI, FL, FR) (RX12_finished_0    n sl SH FI FL FR) := pw_cons (gX12_finished_0 hkb  N     n sl SH FI FL FR hok) (fun _ _ h => ⟨_, h⟩)
def RX12_finished  (n sl : Nat) (SH : Nat → Nat × Nat) (FI : Nat → Nat → Int32) (FL : Nat → Nat → Int64) (FR : Nat → Nat → Option Nat) : Unit → hS → Prop := (RX12_finished_0    n sl SH FI FL FR)
set_option maxHeartbeats 4000000 in
set_option maxRecDepth 100000 in
theorem rX12_finished {sk : xK} {base N d : Nat} (hkb : x_kb sk base)  (n sl : Nat) (SH : Nat → Nat × Nat) (FI : Nat → Nat → Int32) (FL : Nat → Nat → Int64) (FR : Nat → Nat → Option Nat) (hok : pk n SH FR)  : pw pj_V sk base N d none 234 0 [(0, .ref (base + 121))] [] (n, sl, SH, FI, FL, FR) (RX12_finished  n sl SH FI FL FR) := by
  unfold RX12_finished
  exact pw_Li (L2 := [(0, .ref (base + 121))]) [0] (rX12_finished_0 hkb   n sl SH FI FL FR hok  ) ⟨rfl, trivial⟩
def BX12_reduced_0 (K0 : Nat → Nat → (Nat → Nat × Nat) → (Nat → Nat → Int32) → (Nat → Nat → Int64) → (Nat → Nat → Option Nat) → Unit → hS → Prop) (a1 : Int32)  (n sl : Nat) (SH : Nat → Nat × Nat) (FI : Nat → Nat → Int32) (FL : Nat → Nat → Int64) (FR : Nat → Nat → Option Nat) : Unit → hS → Prop := (P_if ((fX12_tops  SH FI FL FR).toInt < (a1).toInt) (P_ret () (n, sl, SH, FI, FL, FR)) (P_and (p_in ((FI 121 90) - ((1 : Int32))) (SH 165).2) (P_bi (RX12_emit (FI 165 ((FI 121 90) - ((1 : Int32))).toInt.toNat) n sl SH (h_up FI 121 90 ((FI 121 90) - ((1 : Int32)))) FL FR) (fun v3 n3 sl3 SH3 FI3 FL3 FR3 => (K0  n3 sl3 SH3 FI3 FL3 FR3)))))
set_option maxHeartbeats 4000000 in
set_option maxRecDepth 100000 in
theorem bX12_reduced_0 {sk : xK} {base N d : Nat} {K0 : Nat → Nat → (Nat → Nat × Nat) → (Nat → Nat → Int32) → (Nat → Nat → Int64) → (Nat → Nat → Option Nat) → Unit → hS → Prop} (hkb : x_kb sk base) (a1 : Int32)   (n sl : Nat) (SH : Nat → Nat × Nat) (FI : Nat → Nat → Int32) (FL : Nat → Nat → Int64) (FR : Nat → Nat → Option Nat) (hok : pk n SH FR)  (hK0 : ∀  (n sl : Nat) (SH : Nat → Nat × Nat) (FI : Nat → Nat → Int32) (FL : Nat → Nat → Int64) (FR : Nat → Nat → Option Nat), pk n SH FR → pw pj_V sk base N d none 235 0 [(0, .ref (base + 121)), (1, .int (a1))] [] (n, sl, SH, FI, FL, FR) (K0  n sl SH FI FL FR)) : pw pj_V sk base (N + 1) d none 235 0 [(0, .ref (base + 121)), (1, .int (a1))] [] (n, sl, SH, FI, FL, FR) (BX12_reduced_0 K0 a1  n sl SH FI FL FR) := by
  unfold BX12_reduced_0
  refine pd_aloadn (aX12_reduced 0 rfl) rfl ?_
  refine pw_cf (pw_callV (Bs := []) (rest := []) (aX12_reduced 1 rfl) um_RX12_559 ujX12_tops wc_RX12_559.2.2.2.2 (by decide) (by decide) rfl rfl (fun d => rX12_tops hkb  n sl SH FI FL FR hok) (fun v0 n0 sl0 SH0 FI0 FL0 FR0 _ hC => ?_))
  obtain ⟨rfl, hC⟩ := hC; cases hC
  show pw _ _ _ _ _ _ _ 4 _ [.int (fX12_tops  SH FI FL FR)] _ _
  refine pw_iloadn (aX12_reduced 2 rfl) rfl ?_
  refine pw_iclt (tgt := 34) (aX12_reduced 3 rfl) (by decide) (fun b1 => ?_) (fun b1 => ?_)
  · skip
    exact pw_vret (aX12_reduced 18 rfl) hok
  · skip
    refine pw_aloadn (aX12_reduced 4 rfl) rfl ?_
    refine pw_aloadn (aX12_reduced 5 rfl) rfl ?_
    refine pw_getr (v := .int (FI 121 90)) (aX12_reduced 6 rfl) uf_RX12_556 un_RX12_556 rfl ?_
    refine pw_iconst (v := (1 : Int32)) (aX12_reduced 7 rfl) rfl ?_
    refine pw_isub (aX12_reduced 8 rfl) ?_
    refine pw_putri (aX12_reduced 9 rfl) uf_RX12_556 (fun _ _ _ => rfl) (fun t3 => ?_)
    refine pw_aloadn (aX12_reduced 10 rfl) rfl ?_
    refine pw_aloadn (aX12_reduced 11 rfl) rfl ?_
    refine pw_getr (v := .ref (base + 165)) (aX12_reduced 12 rfl) uf_RX12_154 un_RX12_154 (congrArg (fun r => va_rf (h_rf base r)) (q121_86 (hok).2.1)) ?_
    refine pw_aloadn (aX12_reduced 13 rfl) rfl ?_
    refine pw_getr (v := .int ((FI 121 90) - ((1 : Int32)))) (aX12_reduced 14 rfl) uf_RX12_556 un_RX12_556 rfl ?_
    refine pw_ialdr (c := 165) (ix := ((FI 121 90) - ((1 : Int32))).toInt.toNat) (aX12_reduced 15 rfl) rfl (fun _ => ?_)
    refine pw_callV (Bs := [.int (FI 165 ((FI 121 90) - ((1 : Int32))).toInt.toNat)]) (rest := []) (aX12_reduced 16 rfl) um_RX12_496 ujX12_emit wc_RX12_496.2.2.2.2 (by decide) (by decide) rfl rfl (fun d => rX12_emit hkb (FI 165 ((FI 121 90) - ((1 : Int32))).toInt.toNat) n sl SH (h_up FI 121 90 ((FI 121 90) - ((1 : Int32)))) FL FR hok) (fun v3 n3 sl3 SH3 FI3 FL3 FR3 hok3 _ => ?_)
    show pw _ _ _ _ _ _ _ 31 _ [] _ _
    refine pw_goto (tgt := 0) (aX12_reduced 17 rfl) (by decide) ?_
    exact pw_Li (L2 := [(0, .ref (base + 121)), (1, .int (a1))]) [0, 1] (hK0  n3 sl3 SH3 FI3 FL3 FR3 hok3) ⟨rfl, rfl, trivial⟩
def GX12_reduced_0  (a1 : Int32) : Nat → Nat → Nat → (Nat → Nat × Nat) → (Nat → Nat → Int32) → (Nat → Nat → Int64) → (Nat → Nat → Option Nat) → Unit → hS → Prop
  | 0, _, _, _, _, _, _ => fun _ _ => False
  | g + 1, n, sl, SH, FI, FL, FR => BX12_reduced_0  (GX12_reduced_0  a1 g) a1  n sl SH FI FL FR
def RX12_reduced_0  (a1 : Int32)  (n sl : Nat) (SH : Nat → Nat × Nat) (FI : Nat → Nat → Int32) (FL : Nat → Nat → Int64) (FR : Nat → Nat → Option Nat) : Unit → hS → Prop := fun v s => ∃ g, GX12_reduced_0  a1 g  n sl SH FI FL FR v s
theorem gX12_reduced_0 {sk : xK} {base d : Nat}  (hkb : x_kb sk base) (a1 : Int32) (N : Nat) :  ∀   (n sl : Nat) (SH : Nat → Nat × Nat) (FI : Nat → Nat → Int32) (FL : Nat → Nat → Int64) (FR : Nat → Nat → Option Nat), pk n SH FR → pw pj_V sk base N d none 235 0 [(0, .ref (base + 121)), (1, .int (a1))] [] (n, sl, SH, FI, FL, FR) (GX12_reduced_0  a1 (N + 1)  n sl SH FI FL FR) := by
  induction N with
  | zero => intros; exact pw_0
  | succ N ih => intro     n sl SH FI FL FR hok; exact bX12_reduced_0 hkb a1   n sl SH FI FL FR hok  (ih  )
theorem rX12_reduced_0 {sk : xK} {base N d : Nat}  (hkb : x_kb sk base) (a1 : Int32)   (n sl : Nat) (SH : Nat → Nat × Nat) (FI : Nat → Nat → Int32) (FL : Nat → Nat → Int64) (FR : Nat → Nat → Option Nat) (hok : pk n SH FR)   : pw pj_V sk base N d none 235 0 [(0, .ref (base + 121)), (1, .int (a1))] [] (n, sl, SH, FI, FL, FR) (RX12_reduced_0  a1  n sl SH FI FL FR) := pw_cons (gX12_reduced_0 hkb a1 N     n sl SH FI FL FR hok) (fun _ _ h => ⟨_, h⟩)
def RX12_reduced (a1 : Int32) (n sl : Nat) (SH : Nat → Nat × Nat) (FI : Nat → Nat → Int32) (FL : Nat → Nat → Int64) (FR : Nat → Nat → Option Nat) : Unit → hS → Prop := (RX12_reduced_0  a1  n sl SH FI FL FR)
set_option maxHeartbeats 4000000 in
set_option maxRecDepth 100000 in
theorem rX12_reduced {sk : xK} {base N d : Nat} (hkb : x_kb sk base) (a1 : Int32) (n sl : Nat) (SH : Nat → Nat × Nat) (FI : Nat → Nat → Int32) (FL : Nat → Nat → Int64) (FR : Nat → Nat → Option Nat) (hok : pk n SH FR)  : pw pj_V sk base N d none 235 0 [(0, .ref (base + 121)), (1, .int (a1))] [] (n, sl, SH, FI, FL, FR) (RX12_reduced a1 n sl SH FI FL FR) := by
  unfold RX12_reduced
  exact pw_Li (L2 := [(0, .ref (base + 121)), (1, .int (a1))]) [0, 1] (rX12_reduced_0 hkb a1  n sl SH FI FL FR hok  ) ⟨rfl, rfl, trivial⟩
def fX12_multiplies (a1 : Int32) (a2 : Int64) (SH : Nat → Nat × Nat) (FI : Nat → Nat → Int32) (FL : Nat → Nat → Int64) (FR : Nat → Nat → Option Nat) : Int32 := (if (a1).toInt = ((5 : Int32)).toInt then (if (a2).toInt = ((42 : Int64)).toInt then ((30 : Int32)) else (if (a1).toInt = ((2 : Int32)).toInt then (if (a2).toInt = ((8 : Int64)).toInt then ((27 : Int32)) else (if (a1).toInt = ((2 : Int32)).toInt then (if (a2).toInt = ((9 : Int64)).toInt then ((29 : Int32)) else ((-1 : Int32))) else ((-1 : Int32)))) else (if (a1).toInt = ((2 : Int32)).toInt then (if (a2).toInt = ((9 : Int64)).toInt then ((29 : Int32)) else ((-1 : Int32))) else ((-1 : Int32))))) else (if (a1).toInt = ((2 : Int32)).toInt then (if (a2).toInt = ((8 : Int64)).toInt then ((27 : Int32)) else (if (a1).toInt = ((2 : Int32)).toInt then (if (a2).toInt = ((9 : Int64)).toInt then ((29 : Int32)) else ((-1 : Int32))) else ((-1 : Int32)))) else (if (a1).toInt = ((2 : Int32)).toInt then (if (a2).toInt = ((9 : Int64)).toInt then ((29 : Int32)) else ((-1 : Int32))) else ((-1 : Int32)))))
set_option maxHeartbeats 4000000 in
set_option maxRecDepth 100000 in
theorem rX12_multiplies {sk : xK} {base N d : Nat} (hkb : x_kb sk base) (a1 : Int32) (a2 : Int64) (n sl : Nat) (SH : Nat → Nat × Nat) (FI : Nat → Nat → Int32) (FL : Nat → Nat → Int64) (FR : Nat → Nat → Option Nat) (hok : pk n SH FR)  : pw pj_I sk base N d none 248 0 [(0, .ref (base + 121)), (1, .int (a1)), (2, .long (a2))] [] (n, sl, SH, FI, FL, FR) (P_ret (fX12_multiplies a1 a2 SH FI FL FR) (n, sl, SH, FI, FL, FR)) := by
  unfold fX12_multiplies
  refine pw_iloadn (aX12_multiplies 0 rfl) rfl ?_
  refine pw_iconst (v := (5 : Int32)) (aX12_multiplies 1 rfl) rfl ?_
  refine pw_ite (pw_icne (tgt := 16) (aX12_multiplies 2 rfl) (by decide) (fun b0 => ?_) (fun b0 => ?_))
  · skip
    refine pw_lloadn (aX12_multiplies 3 rfl) rfl ?_
    refine pw_ldc2 (v := (42 : Int64)) (aX12_multiplies 4 rfl) uk_RX12_647 ?_
    refine pw_ite (pw_lcne (tgt := 16) (aX12_multiplies 5 rfl) (aX12_multiplies 6 rfl) (by decide) (fun b1 => ?_) (fun b1 => ?_))
    · skip
      refine pw_bipush (v := (30 : Int32)) (aX12_multiplies 7 rfl) rfl ?_
      exact pw_iret (aX12_multiplies 8 rfl) hok
    · skip
      refine pw_iloadn (aX12_multiplies 9 rfl) rfl ?_
      refine pw_iconst (v := (2 : Int32)) (aX12_multiplies 10 rfl) rfl ?_
      refine pw_ite (pw_icne (tgt := 32) (aX12_multiplies 11 rfl) (by decide) (fun b2 => ?_) (fun b2 => ?_))
      · skip
        refine pw_lloadn (aX12_multiplies 12 rfl) rfl ?_
        refine pw_ldc2 (v := (8 : Int64)) (aX12_multiplies 13 rfl) uk_RX12_315 ?_
        refine pw_ite (pw_lcne (tgt := 32) (aX12_multiplies 14 rfl) (aX12_multiplies 15 rfl) (by decide) (fun b3 => ?_) (fun b3 => ?_))
        · skip
          refine pw_bipush (v := (27 : Int32)) (aX12_multiplies 16 rfl) rfl ?_
          exact pw_iret (aX12_multiplies 17 rfl) hok
        · skip
          refine pw_iloadn (aX12_multiplies 18 rfl) rfl ?_
          refine pw_iconst (v := (2 : Int32)) (aX12_multiplies 19 rfl) rfl ?_
          refine pw_ite (pw_icne (tgt := 50) (aX12_multiplies 20 rfl) (by decide) (fun b4 => ?_) (fun b4 => ?_))
          · skip
            refine pw_lloadn (aX12_multiplies 21 rfl) rfl ?_
            refine pw_ldc2 (v := (9 : Int64)) (aX12_multiplies 22 rfl) uk_RX12_649 ?_
            refine pw_ite (pw_lcne (tgt := 50) (aX12_multiplies 23 rfl) (aX12_multiplies 24 rfl) (by decide) (fun b5 => ?_) (fun b5 => ?_))
            · skip
              refine pw_bipush (v := (29 : Int32)) (aX12_multiplies 25 rfl) rfl ?_
              refine pw_goto (tgt := 51) (aX12_multiplies 26 rfl) (by decide) ?_
              exact pw_iret (aX12_multiplies 28 rfl) hok
            · skip
              refine pw_iconst (v := (-1 : Int32)) (aX12_multiplies 27 rfl) rfl ?_
              exact pw_iret (aX12_multiplies 28 rfl) hok
          · skip
            refine pw_iconst (v := (-1 : Int32)) (aX12_multiplies 27 rfl) rfl ?_
            exact pw_iret (aX12_multiplies 28 rfl) hok
      · skip
        refine pw_iloadn (aX12_multiplies 18 rfl) rfl ?_
        refine pw_iconst (v := (2 : Int32)) (aX12_multiplies 19 rfl) rfl ?_
        refine pw_ite (pw_icne (tgt := 50) (aX12_multiplies 20 rfl) (by decide) (fun b6 => ?_) (fun b6 => ?_))
        · skip
          refine pw_lloadn (aX12_multiplies 21 rfl) rfl ?_
          refine pw_ldc2 (v := (9 : Int64)) (aX12_multiplies 22 rfl) uk_RX12_649 ?_
          refine pw_ite (pw_lcne (tgt := 50) (aX12_multiplies 23 rfl) (aX12_multiplies 24 rfl) (by decide) (fun b7 => ?_) (fun b7 => ?_))
          · skip
            refine pw_bipush (v := (29 : Int32)) (aX12_multiplies 25 rfl) rfl ?_
            refine pw_goto (tgt := 51) (aX12_multiplies 26 rfl) (by decide) ?_
            exact pw_iret (aX12_multiplies 28 rfl) hok
          · skip
            refine pw_iconst (v := (-1 : Int32)) (aX12_multiplies 27 rfl) rfl ?_
            exact pw_iret (aX12_multiplies 28 rfl) hok
        · skip
          refine pw_iconst (v := (-1 : Int32)) (aX12_multiplies 27 rfl) rfl ?_
          exact pw_iret (aX12_multiplies 28 rfl) hok
  · skip
    refine pw_iloadn (aX12_multiplies 9 rfl) rfl ?_
    refine pw_iconst (v := (2 : Int32)) (aX12_multiplies 10 rfl) rfl ?_
    refine pw_ite (pw_icne (tgt := 32) (aX12_multiplies 11 rfl) (by decide) (fun b8 => ?_) (fun b8 => ?_))
    · skip
      refine pw_lloadn (aX12_multiplies 12 rfl) rfl ?_
      refine pw_ldc2 (v := (8 : Int64)) (aX12_multiplies 13 rfl) uk_RX12_315 ?_
      refine pw_ite (pw_lcne (tgt := 32) (aX12_multiplies 14 rfl) (aX12_multiplies 15 rfl) (by decide) (fun b9 => ?_) (fun b9 => ?_))
      · skip
        refine pw_bipush (v := (27 : Int32)) (aX12_multiplies 16 rfl) rfl ?_
        exact pw_iret (aX12_multiplies 17 rfl) hok
      · skip
        refine pw_iloadn (aX12_multiplies 18 rfl) rfl ?_
        refine pw_iconst (v := (2 : Int32)) (aX12_multiplies 19 rfl) rfl ?_
        refine pw_ite (pw_icne (tgt := 50) (aX12_multiplies 20 rfl) (by decide) (fun b10 => ?_) (fun b10 => ?_))
        · skip
          refine pw_lloadn (aX12_multiplies 21 rfl) rfl ?_
          refine pw_ldc2 (v := (9 : Int64)) (aX12_multiplies 22 rfl) uk_RX12_649 ?_
          refine pw_ite (pw_lcne (tgt := 50) (aX12_multiplies 23 rfl) (aX12_multiplies 24 rfl) (by decide) (fun b11 => ?_) (fun b11 => ?_))
          · skip
            refine pw_bipush (v := (29 : Int32)) (aX12_multiplies 25 rfl) rfl ?_
            refine pw_goto (tgt := 51) (aX12_multiplies 26 rfl) (by decide) ?_
            exact pw_iret (aX12_multiplies 28 rfl) hok
          · skip
            refine pw_iconst (v := (-1 : Int32)) (aX12_multiplies 27 rfl) rfl ?_
            exact pw_iret (aX12_multiplies 28 rfl) hok
        · skip
          refine pw_iconst (v := (-1 : Int32)) (aX12_multiplies 27 rfl) rfl ?_
          exact pw_iret (aX12_multiplies 28 rfl) hok
    · skip
      refine pw_iloadn (aX12_multiplies 18 rfl) rfl ?_
      refine pw_iconst (v := (2 : Int32)) (aX12_multiplies 19 rfl) rfl ?_
      refine pw_ite (pw_icne (tgt := 50) (aX12_multiplies 20 rfl) (by decide) (fun b12 => ?_) (fun b12 => ?_))
      · skip
        refine pw_lloadn (aX12_multiplies 21 rfl) rfl ?_
        refine pw_ldc2 (v := (9 : Int64)) (aX12_multiplies 22 rfl) uk_RX12_649 ?_
        refine pw_ite (pw_lcne (tgt := 50) (aX12_multiplies 23 rfl) (aX12_multiplies 24 rfl) (by decide) (fun b13 => ?_) (fun b13 => ?_))
        · skip
          refine pw_bipush (v := (29 : Int32)) (aX12_multiplies 25 rfl) rfl ?_
          refine pw_goto (tgt := 51) (aX12_multiplies 26 rfl) (by decide) ?_
          exact pw_iret (aX12_multiplies 28 rfl) hok
        · skip
          refine pw_iconst (v := (-1 : Int32)) (aX12_multiplies 27 rfl) rfl ?_
          exact pw_iret (aX12_multiplies 28 rfl) hok
      · skip
        refine pw_iconst (v := (-1 : Int32)) (aX12_multiplies 27 rfl) rfl ?_
        exact pw_iret (aX12_multiplies 28 rfl) hok
def fX12_adds (a1 : Int32) (SH : Nat → Nat × Nat) (FI : Nat → Nat → Int32) (FL : Nat → Nat → Int64) (FR : Nat → Nat → Option Nat) : Int32 := (if (FI 149 (a1).toInt.toNat).toInt = ((5 : Int32)).toInt then (if (FL 150 (a1).toInt.toNat).toInt = ((43 : Int64)).toInt then ((1 : Int32)) else (if (FL 150 (a1).toInt.toNat).toInt = ((45 : Int64)).toInt then ((1 : Int32)) else ((0 : Int32)))) else ((0 : Int32)))
set_option maxHeartbeats 4000000 in
set_option maxRecDepth 100000 in
theorem rX12_adds {sk : xK} {base N d : Nat} (hkb : x_kb sk base) (a1 : Int32) (n sl : Nat) (SH : Nat → Nat × Nat) (FI : Nat → Nat → Int32) (FL : Nat → Nat → Int64) (FR : Nat → Nat → Option Nat) (hok : pk n SH FR)  : pw pj_I sk base N d none 250 0 [(0, .ref (base + 121)), (1, .int (a1))] [] (n, sl, SH, FI, FL, FR) (P_ret (fX12_adds a1 SH FI FL FR) (n, sl, SH, FI, FL, FR)) := by
  unfold fX12_adds
  refine pw_aloadn (aX12_adds 0 rfl) rfl ?_
  refine pw_getr (v := .ref (base + 149)) (aX12_adds 1 rfl) uf_RX12_105 un_RX12_105 (congrArg (fun r => va_rf (h_rf base r)) (q121_62 (hok).2.1)) ?_
  refine pw_iloadn (aX12_adds 2 rfl) rfl ?_
  refine pw_sd (pw_ialdr (c := 149) (ix := (a1).toInt.toNat) (aX12_adds 3 rfl) rfl (fun _ => ?_))
  refine pw_iconst (v := (5 : Int32)) (aX12_adds 4 rfl) rfl ?_
  refine pw_ite (pw_icne (tgt := 40) (aX12_adds 5 rfl) (by decide) (fun b0 => ?_) (fun b0 => ?_))
  · skip
    refine pw_aloadn (aX12_adds 6 rfl) rfl ?_
    refine pw_getr (v := .ref (base + 150)) (aX12_adds 7 rfl) uf_RX12_108 un_RX12_108 (congrArg (fun r => va_rf (h_rf base r)) (q121_63 (hok).2.1)) ?_
    refine pw_iloadn (aX12_adds 8 rfl) rfl ?_
    refine pw_sd (pw_laldr (c := 150) (ix := (a1).toInt.toNat) (aX12_adds 9 rfl) rfl (fun _ => ?_))
    refine pw_ldc2 (v := (43 : Int64)) (aX12_adds 10 rfl) uk_RX12_605 ?_
    refine pw_ite (pw_lceq (tgt := 36) (aX12_adds 11 rfl) (aX12_adds 12 rfl) (by decide) (fun b1 => ?_) (fun b1 => ?_))
    · skip
      refine pw_iconst (v := (1 : Int32)) (aX12_adds 20 rfl) rfl ?_
      refine pw_goto (tgt := 41) (aX12_adds 21 rfl) (by decide) ?_
      exact pw_iret (aX12_adds 23 rfl) hok
    · skip
      refine pw_aloadn (aX12_adds 13 rfl) rfl ?_
      refine pw_getr (v := .ref (base + 150)) (aX12_adds 14 rfl) uf_RX12_108 un_RX12_108 (congrArg (fun r => va_rf (h_rf base r)) (q121_63 (hok).2.1)) ?_
      refine pw_iloadn (aX12_adds 15 rfl) rfl ?_
      refine pw_sd (pw_laldr (c := 150) (ix := (a1).toInt.toNat) (aX12_adds 16 rfl) rfl (fun _ => ?_))
      refine pw_ldc2 (v := (45 : Int64)) (aX12_adds 17 rfl) uk_RX12_651 ?_
      refine pw_ite (pw_lcne (tgt := 40) (aX12_adds 18 rfl) (aX12_adds 19 rfl) (by decide) (fun b2 => ?_) (fun b2 => ?_))
      · skip
        refine pw_iconst (v := (1 : Int32)) (aX12_adds 20 rfl) rfl ?_
        refine pw_goto (tgt := 41) (aX12_adds 21 rfl) (by decide) ?_
        exact pw_iret (aX12_adds 23 rfl) hok
      · skip
        refine pw_iconst (v := (0 : Int32)) (aX12_adds 22 rfl) rfl ?_
        exact pw_iret (aX12_adds 23 rfl) hok
  · skip
    refine pw_iconst (v := (0 : Int32)) (aX12_adds 22 rfl) rfl ?_
    exact pw_iret (aX12_adds 23 rfl) hok
def fX12_isAlone (a1 : Int32) (SH : Nat → Nat × Nat) (FI : Nat → Nat → Int32) (FL : Nat → Nat → Int64) (FR : Nat → Nat → Option Nat) : Int32 := (if (FI 149 (a1).toInt.toNat).toInt = ((3 : Int32)).toInt then (if (fX12_multiplies (FI 149 ((a1) + ((1 : Int32))).toInt.toNat) (FL 150 ((a1) + ((1 : Int32))).toInt.toNat) SH FI FL FR).toInt = ((-1 : Int32)).toInt then ((1 : Int32)) else ((0 : Int32))) else ((0 : Int32)))
set_option maxHeartbeats 4000000 in
set_option maxRecDepth 100000 in
theorem rX12_isAlone {sk : xK} {base N d : Nat} (hkb : x_kb sk base) (a1 : Int32) (n sl : Nat) (SH : Nat → Nat × Nat) (FI : Nat → Nat → Int32) (FL : Nat → Nat → Int64) (FR : Nat → Nat → Option Nat) (hok : pk n SH FR)  : pw pj_I sk base N d none 249 0 [(0, .ref (base + 121)), (1, .int (a1))] [] (n, sl, SH, FI, FL, FR) (P_ret (fX12_isAlone a1 SH FI FL FR) (n, sl, SH, FI, FL, FR)) := by
  unfold fX12_isAlone
  refine pw_aloadn (aX12_isAlone 0 rfl) rfl ?_
  refine pw_getr (v := .ref (base + 149)) (aX12_isAlone 1 rfl) uf_RX12_105 un_RX12_105 (congrArg (fun r => va_rf (h_rf base r)) (q121_62 (hok).2.1)) ?_
  refine pw_iloadn (aX12_isAlone 2 rfl) rfl ?_
  refine pw_sd (pw_ialdr (c := 149) (ix := (a1).toInt.toNat) (aX12_isAlone 3 rfl) rfl (fun _ => ?_))
  refine pw_iconst (v := (3 : Int32)) (aX12_isAlone 4 rfl) rfl ?_
  refine pw_ite (pw_icne (tgt := 38) (aX12_isAlone 5 rfl) (by decide) (fun b0 => ?_) (fun b0 => ?_))
  · skip
    refine pw_aloadn (aX12_isAlone 6 rfl) rfl ?_
    refine pw_aloadn (aX12_isAlone 7 rfl) rfl ?_
    refine pw_getr (v := .ref (base + 149)) (aX12_isAlone 8 rfl) uf_RX12_105 un_RX12_105 (congrArg (fun r => va_rf (h_rf base r)) (q121_62 (hok).2.1)) ?_
    refine pw_iloadn (aX12_isAlone 9 rfl) rfl ?_
    refine pw_iconst (v := (1 : Int32)) (aX12_isAlone 10 rfl) rfl ?_
    refine pw_iadd (aX12_isAlone 11 rfl) ?_
    refine pw_sd (pw_ialdr (c := 149) (ix := ((a1) + ((1 : Int32))).toInt.toNat) (aX12_isAlone 12 rfl) rfl (fun _ => ?_))
    refine pw_aloadn (aX12_isAlone 13 rfl) rfl ?_
    refine pw_getr (v := .ref (base + 150)) (aX12_isAlone 14 rfl) uf_RX12_108 un_RX12_108 (congrArg (fun r => va_rf (h_rf base r)) (q121_63 (hok).2.1)) ?_
    refine pw_iloadn (aX12_isAlone 15 rfl) rfl ?_
    refine pw_iconst (v := (1 : Int32)) (aX12_isAlone 16 rfl) rfl ?_
    refine pw_iadd (aX12_isAlone 17 rfl) ?_
    refine pw_sd (pw_laldr (c := 150) (ix := ((a1) + ((1 : Int32))).toInt.toNat) (aX12_isAlone 18 rfl) rfl (fun _ => ?_))
    refine pw_cf (pw_callV (Bs := [.int (FI 149 ((a1) + ((1 : Int32))).toInt.toNat), .long (FL 150 ((a1) + ((1 : Int32))).toInt.toNat)]) (rest := []) (aX12_isAlone 19 rfl) um_RX12_607 ujX12_multiplies wc_RX12_607.2.2.2.2 (by decide) (by decide) rfl rfl (fun d => rX12_multiplies hkb (FI 149 ((a1) + ((1 : Int32))).toInt.toNat) (FL 150 ((a1) + ((1 : Int32))).toInt.toNat) n sl SH FI FL FR hok) (fun v1 n1 sl1 SH1 FI1 FL1 FR1 _ hC => ?_))
    obtain ⟨rfl, hC⟩ := hC; cases hC
    show pw _ _ _ _ _ _ _ 30 _ [.int (fX12_multiplies (FI 149 ((a1) + ((1 : Int32))).toInt.toNat) (FL 150 ((a1) + ((1 : Int32))).toInt.toNat) SH FI FL FR)] _ _
    refine pw_iconst (v := (-1 : Int32)) (aX12_isAlone 20 rfl) rfl ?_
    refine pw_ite (pw_icne (tgt := 38) (aX12_isAlone 21 rfl) (by decide) (fun b2 => ?_) (fun b2 => ?_))
    · skip
      refine pw_iconst (v := (1 : Int32)) (aX12_isAlone 22 rfl) rfl ?_
      refine pw_goto (tgt := 39) (aX12_isAlone 23 rfl) (by decide) ?_
      exact pw_iret (aX12_isAlone 25 rfl) hok
    · skip
      refine pw_iconst (v := (0 : Int32)) (aX12_isAlone 24 rfl) rfl ?_
      exact pw_iret (aX12_isAlone 25 rfl) hok
  · skip
    refine pw_iconst (v := (0 : Int32)) (aX12_isAlone 24 rfl) rfl ?_
    exact pw_iret (aX12_isAlone 25 rfl) hok
def fX12_compares (a1 : Int32) (a2 : Int64) (SH : Nat → Nat × Nat) (FI : Nat → Nat → Int32) (FL : Nat → Nat → Int64) (FR : Nat → Nat → Option Nat) : Int32 := (if (a1).toInt = ((5 : Int32)).toInt then (if (a2).toInt = ((257 : Int64)).toInt then ((41 : Int32)) else (if (a2).toInt = ((258 : Int64)).toInt then ((46 : Int32)) else (if (a2).toInt = ((60 : Int64)).toInt then ((45 : Int32)) else (if (a2).toInt = ((259 : Int64)).toInt then ((44 : Int32)) else (if (a2).toInt = ((62 : Int64)).toInt then ((43 : Int32)) else (if (a2).toInt = ((260 : Int64)).toInt then ((42 : Int32)) else ((-1 : Int32)))))))) else ((-1 : Int32)))
set_option maxHeartbeats 4000000 in
set_option maxRecDepth 100000 in
theorem rX12_compares {sk : xK} {base N d : Nat} (hkb : x_kb sk base) (a1 : Int32) (a2 : Int64) (n sl : Nat) (SH : Nat → Nat × Nat) (FI : Nat → Nat → Int32) (FL : Nat → Nat → Int64) (FR : Nat → Nat → Option Nat) (hok : pk n SH FR)  : pw pj_I sk base N d none 246 0 [(0, .ref (base + 121)), (1, .int (a1)), (2, .long (a2))] [] (n, sl, SH, FI, FL, FR) (P_ret (fX12_compares a1 a2 SH FI FL FR) (n, sl, SH, FI, FL, FR)) := by
  unfold fX12_compares
  refine pw_iloadn (aX12_compares 0 rfl) rfl ?_
  refine pw_iconst (v := (5 : Int32)) (aX12_compares 1 rfl) rfl ?_
  refine pw_ite (pw_iceq (tgt := 7) (aX12_compares 2 rfl) (by decide) (fun b0 => ?_) (fun b0 => ?_))
  · skip
    refine pw_lloadn (aX12_compares 5 rfl) rfl ?_
    refine pw_ldc2 (v := (257 : Int64)) (aX12_compares 6 rfl) uk_RX12_629 ?_
    refine pw_ite (pw_lcne (tgt := 18) (aX12_compares 7 rfl) (aX12_compares 8 rfl) (by decide) (fun b1 => ?_) (fun b1 => ?_))
    · skip
      refine pw_bipush (v := (41 : Int32)) (aX12_compares 9 rfl) rfl ?_
      exact pw_iret (aX12_compares 10 rfl) hok
    · skip
      refine pw_lloadn (aX12_compares 11 rfl) rfl ?_
      refine pw_ldc2 (v := (258 : Int64)) (aX12_compares 12 rfl) uk_RX12_631 ?_
      refine pw_ite (pw_lcne (tgt := 29) (aX12_compares 13 rfl) (aX12_compares 14 rfl) (by decide) (fun b2 => ?_) (fun b2 => ?_))
      · skip
        refine pw_bipush (v := (46 : Int32)) (aX12_compares 15 rfl) rfl ?_
        exact pw_iret (aX12_compares 16 rfl) hok
      · skip
        refine pw_lloadn (aX12_compares 17 rfl) rfl ?_
        refine pw_ldc2 (v := (60 : Int64)) (aX12_compares 18 rfl) uk_RX12_633 ?_
        refine pw_ite (pw_lcne (tgt := 40) (aX12_compares 19 rfl) (aX12_compares 20 rfl) (by decide) (fun b3 => ?_) (fun b3 => ?_))
        · skip
          refine pw_bipush (v := (45 : Int32)) (aX12_compares 21 rfl) rfl ?_
          exact pw_iret (aX12_compares 22 rfl) hok
        · skip
          refine pw_lloadn (aX12_compares 23 rfl) rfl ?_
          refine pw_ldc2 (v := (259 : Int64)) (aX12_compares 24 rfl) uk_RX12_635 ?_
          refine pw_ite (pw_lcne (tgt := 51) (aX12_compares 25 rfl) (aX12_compares 26 rfl) (by decide) (fun b4 => ?_) (fun b4 => ?_))
          · skip
            refine pw_bipush (v := (44 : Int32)) (aX12_compares 27 rfl) rfl ?_
            exact pw_iret (aX12_compares 28 rfl) hok
          · skip
            refine pw_lloadn (aX12_compares 29 rfl) rfl ?_
            refine pw_ldc2 (v := (62 : Int64)) (aX12_compares 30 rfl) uk_RX12_637 ?_
            refine pw_ite (pw_lcne (tgt := 62) (aX12_compares 31 rfl) (aX12_compares 32 rfl) (by decide) (fun b5 => ?_) (fun b5 => ?_))
            · skip
              refine pw_bipush (v := (43 : Int32)) (aX12_compares 33 rfl) rfl ?_
              exact pw_iret (aX12_compares 34 rfl) hok
            · skip
              refine pw_lloadn (aX12_compares 35 rfl) rfl ?_
              refine pw_ldc2 (v := (260 : Int64)) (aX12_compares 36 rfl) uk_RX12_639 ?_
              refine pw_ite (pw_lcne (tgt := 75) (aX12_compares 37 rfl) (aX12_compares 38 rfl) (by decide) (fun b6 => ?_) (fun b6 => ?_))
              · skip
                refine pw_bipush (v := (42 : Int32)) (aX12_compares 39 rfl) rfl ?_
                refine pw_goto (tgt := 76) (aX12_compares 40 rfl) (by decide) ?_
                exact pw_iret (aX12_compares 42 rfl) hok
              · skip
                refine pw_iconst (v := (-1 : Int32)) (aX12_compares 41 rfl) rfl ?_
                exact pw_iret (aX12_compares 42 rfl) hok
  · skip
    refine pw_iconst (v := (-1 : Int32)) (aX12_compares 3 rfl) rfl ?_
    exact pw_iret (aX12_compares 4 rfl) hok
def fX12_shifts (a1 : Int32) (a2 : Int64) (SH : Nat → Nat × Nat) (FI : Nat → Nat → Int32) (FL : Nat → Nat → Int64) (FR : Nat → Nat → Option Nat) : Int32 := (if (a1).toInt = ((5 : Int32)).toInt then (if (a2).toInt = ((261 : Int64)).toInt then ((36 : Int32)) else (if (a2).toInt = ((262 : Int64)).toInt then ((38 : Int32)) else (if (a2).toInt = ((263 : Int64)).toInt then ((37 : Int32)) else ((-1 : Int32))))) else ((-1 : Int32)))
set_option maxHeartbeats 4000000 in
set_option maxRecDepth 100000 in
theorem rX12_shifts {sk : xK} {base N d : Nat} (hkb : x_kb sk base) (a1 : Int32) (a2 : Int64) (n sl : Nat) (SH : Nat → Nat × Nat) (FI : Nat → Nat → Int32) (FL : Nat → Nat → Int64) (FR : Nat → Nat → Option Nat) (hok : pk n SH FR)  : pw pj_I sk base N d none 247 0 [(0, .ref (base + 121)), (1, .int (a1)), (2, .long (a2))] [] (n, sl, SH, FI, FL, FR) (P_ret (fX12_shifts a1 a2 SH FI FL FR) (n, sl, SH, FI, FL, FR)) := by
  unfold fX12_shifts
  refine pw_iloadn (aX12_shifts 0 rfl) rfl ?_
  refine pw_iconst (v := (5 : Int32)) (aX12_shifts 1 rfl) rfl ?_
  refine pw_ite (pw_iceq (tgt := 7) (aX12_shifts 2 rfl) (by decide) (fun b0 => ?_) (fun b0 => ?_))
  · skip
    refine pw_lloadn (aX12_shifts 5 rfl) rfl ?_
    refine pw_ldc2 (v := (261 : Int64)) (aX12_shifts 6 rfl) uk_RX12_641 ?_
    refine pw_ite (pw_lcne (tgt := 18) (aX12_shifts 7 rfl) (aX12_shifts 8 rfl) (by decide) (fun b1 => ?_) (fun b1 => ?_))
    · skip
      refine pw_bipush (v := (36 : Int32)) (aX12_shifts 9 rfl) rfl ?_
      exact pw_iret (aX12_shifts 10 rfl) hok
    · skip
      refine pw_lloadn (aX12_shifts 11 rfl) rfl ?_
      refine pw_ldc2 (v := (262 : Int64)) (aX12_shifts 12 rfl) uk_RX12_643 ?_
      refine pw_ite (pw_lcne (tgt := 29) (aX12_shifts 13 rfl) (aX12_shifts 14 rfl) (by decide) (fun b2 => ?_) (fun b2 => ?_))
      · skip
        refine pw_bipush (v := (38 : Int32)) (aX12_shifts 15 rfl) rfl ?_
        exact pw_iret (aX12_shifts 16 rfl) hok
      · skip
        refine pw_lloadn (aX12_shifts 17 rfl) rfl ?_
        refine pw_ldc2 (v := (263 : Int64)) (aX12_shifts 18 rfl) uk_RX12_645 ?_
        refine pw_ite (pw_lcne (tgt := 42) (aX12_shifts 19 rfl) (aX12_shifts 20 rfl) (by decide) (fun b3 => ?_) (fun b3 => ?_))
        · skip
          refine pw_bipush (v := (37 : Int32)) (aX12_shifts 21 rfl) rfl ?_
          refine pw_goto (tgt := 43) (aX12_shifts 22 rfl) (by decide) ?_
          exact pw_iret (aX12_shifts 24 rfl) hok
        · skip
          refine pw_iconst (v := (-1 : Int32)) (aX12_shifts 23 rfl) rfl ?_
          exact pw_iret (aX12_shifts 24 rfl) hok
  · skip
    refine pw_iconst (v := (-1 : Int32)) (aX12_shifts 3 rfl) rfl ?_
    exact pw_iret (aX12_shifts 4 rfl) hok
def BX12_turned_191 (K191 : Int32 → Int32 → Int32 → Int32 → Int32 → Nat → Nat → (Nat → Nat × Nat) → (Nat → Nat → Int32) → (Nat → Nat → Int64) → (Nat → Nat → Option Nat) → Unit → hS → Prop)  (l1i : Int32) (l3i : Int32) (l4i : Int32) (l5i : Int32) (l6i : Int32) (n sl : Nat) (SH : Nat → Nat × Nat) (FI : Nat → Nat → Int32) (FL : Nat → Nat → Int64) (FR : Nat → Nat → Option Nat) : Unit → hS → Prop := (P_if ((l6i).toInt < (l3i).toInt) (P_and (p_in (l6i) (SH 164).2) (P_and (p_in (((l5i) + ((3 : Int32))) + (l6i)) (SH 154).2) (K191 (l1i) (l3i) (l4i) (l5i) ((l6i) + (1 : Int32)) n sl SH (h_up FI 154 (((l5i) + ((3 : Int32))) + (l6i)).toInt.toNat (FI 164 (l6i).toInt.toNat)) FL FR))) (P_and (p_in (l1i) (SH 154).2) (P_and (p_in ((l1i) + ((1 : Int32))) (SH 154).2) (P_ret () (n, sl, SH, (h_up (h_up FI 154 (l1i).toInt.toNat (((l4i) + ((3 : Int32))) &&& ((255 : Int32)))) 154 ((l1i) + ((1 : Int32))).toInt.toNat ((((l4i) + ((3 : Int32))) >>> (((8 : Int32)) &&& 31)) &&& ((255 : Int32)))), FL, FR)))))
set_option maxHeartbeats 4000000 in
set_option maxRecDepth 100000 in
theorem bX12_turned_191 {sk : xK} {base N d : Nat} {K191 : Int32 → Int32 → Int32 → Int32 → Int32 → Nat → Nat → (Nat → Nat × Nat) → (Nat → Nat → Int32) → (Nat → Nat → Int64) → (Nat → Nat → Option Nat) → Unit → hS → Prop} (hkb : x_kb sk base)  (l1i : Int32) (l3i : Int32) (l4i : Int32) (l5i : Int32) (l6i : Int32) (l2i : Int32) (n sl : Nat) (SH : Nat → Nat × Nat) (FI : Nat → Nat → Int32) (FL : Nat → Nat → Int64) (FR : Nat → Nat → Option Nat) (hok : pk n SH FR)  (hK191 : ∀ (l1i : Int32) (l3i : Int32) (l4i : Int32) (l5i : Int32) (l6i : Int32) (l2i : Int32) (n sl : Nat) (SH : Nat → Nat × Nat) (FI : Nat → Nat → Int32) (FL : Nat → Nat → Int64) (FR : Nat → Nat → Option Nat), pk n SH FR → pw pj_V sk base N d none 236 191 [(0, .ref (base + 121)), (1, .int (l1i)), (2, .int (l2i)), (3, .int (l3i)), (4, .int (l4i)), (5, .int (l5i)), (6, .int (l6i))] [] (n, sl, SH, FI, FL, FR) (K191 l1i l3i l4i l5i l6i n sl SH FI FL FR)) : pw pj_V sk base (N + 1) d none 236 191 [(0, .ref (base + 121)), (1, .int (l1i)), (2, .int (l2i)), (3, .int (l3i)), (4, .int (l4i)), (5, .int (l5i)), (6, .int (l6i))] [] (n, sl, SH, FI, FL, FR) (BX12_turned_191 K191  l1i l3i l4i l5i l6i n sl SH FI FL FR) := by
  unfold BX12_turned_191
  refine pd_iload (aX12_turned 117 rfl) rfl ?_
  refine pw_iloadn (aX12_turned 118 rfl) rfl ?_
  refine pw_icge (tgt := 222) (aX12_turned 119 rfl) (by decide) (fun b0 => ?_) (fun b0 => ?_)
  · skip
    refine pw_aloadn (aX12_turned 120 rfl) rfl ?_
    refine pw_getr (v := .ref (base + 154)) (aX12_turned 121 rfl) uf_RX12_120 un_RX12_120 (congrArg (fun r => va_rf (h_rf base r)) (q121_72 (hok).2.1)) ?_
    refine pw_iload (aX12_turned 122 rfl) rfl ?_
    refine pw_iconst (v := (3 : Int32)) (aX12_turned 123 rfl) rfl ?_
    refine pw_iadd (aX12_turned 124 rfl) ?_
    refine pw_iload (aX12_turned 125 rfl) rfl ?_
    refine pw_iadd (aX12_turned 126 rfl) ?_
    refine pw_aloadn (aX12_turned 127 rfl) rfl ?_
    refine pw_getr (v := .ref (base + 164)) (aX12_turned 128 rfl) uf_RX12_151 un_RX12_151 (congrArg (fun r => va_rf (h_rf base r)) (q121_85 (hok).2.1)) ?_
    refine pw_iload (aX12_turned 129 rfl) rfl ?_
    refine pw_ialdr (c := 164) (ix := (l6i).toInt.toNat) (aX12_turned 130 rfl) rfl (fun _ => ?_)
    refine pw_iastr (c := 154) (ix := (((l5i) + ((3 : Int32))) + (l6i)).toInt.toNat) (aX12_turned 131 rfl) rfl (fun _ => ?_)
    refine pw_iinc (v := (l6i) + (1 : Int32)) (L2 := [(6, .int ((l6i) + (1 : Int32))), (0, .ref (base + 121)), (1, .int (l1i)), (2, .int (l2i)), (3, .int (l3i)), (4, .int (l4i)), (5, .int (l5i))]) (aX12_turned 132 rfl) rfl rfl rfl ?_
    refine pw_goto (tgt := 191) (aX12_turned 133 rfl) (by decide) ?_
    exact pw_Li (L2 := [(0, .ref (base + 121)), (1, .int (l1i)), (2, .int (l2i)), (3, .int (l3i)), (4, .int (l4i)), (5, .int (l5i)), (6, .int ((l6i) + (1 : Int32)))]) [6, 0, 1, 2, 3, 4, 5] (hK191 (l1i) (l3i) (l4i) (l5i) ((l6i) + (1 : Int32)) (l2i) n sl SH (h_up FI 154 (((l5i) + ((3 : Int32))) + (l6i)).toInt.toNat (FI 164 (l6i).toInt.toNat)) FL FR hok) ⟨rfl, rfl, rfl, rfl, rfl, rfl, rfl, trivial⟩
  · skip
    refine pw_aloadn (aX12_turned 134 rfl) rfl ?_
    refine pw_getr (v := .ref (base + 154)) (aX12_turned 135 rfl) uf_RX12_120 un_RX12_120 (congrArg (fun r => va_rf (h_rf base r)) (q121_72 (hok).2.1)) ?_
    refine pw_iloadn (aX12_turned 136 rfl) rfl ?_
    refine pw_iload (aX12_turned 137 rfl) rfl ?_
    refine pw_iconst (v := (3 : Int32)) (aX12_turned 138 rfl) rfl ?_
    refine pw_iadd (aX12_turned 139 rfl) ?_
    refine pw_sipush (v := (255 : Int32)) (aX12_turned 140 rfl) rfl ?_
    refine pw_iand (aX12_turned 141 rfl) ?_
    refine pw_iastr (c := 154) (ix := (l1i).toInt.toNat) (aX12_turned 142 rfl) rfl (fun _ => ?_)
    refine pw_aloadn (aX12_turned 143 rfl) rfl ?_
    refine pw_getr (v := .ref (base + 154)) (aX12_turned 144 rfl) uf_RX12_120 un_RX12_120 (congrArg (fun r => va_rf (h_rf base r)) (q121_72 (hok).2.1)) ?_
    refine pw_iloadn (aX12_turned 145 rfl) rfl ?_
    refine pw_iconst (v := (1 : Int32)) (aX12_turned 146 rfl) rfl ?_
    refine pw_iadd (aX12_turned 147 rfl) ?_
    refine pw_iload (aX12_turned 148 rfl) rfl ?_
    refine pw_iconst (v := (3 : Int32)) (aX12_turned 149 rfl) rfl ?_
    refine pw_iadd (aX12_turned 150 rfl) ?_
    refine pw_bipush (v := (8 : Int32)) (aX12_turned 151 rfl) rfl ?_
    refine pw_ishr (aX12_turned 152 rfl) ?_
    refine pw_sipush (v := (255 : Int32)) (aX12_turned 153 rfl) rfl ?_
    refine pw_iand (aX12_turned 154 rfl) ?_
    refine pw_iastr (c := 154) (ix := ((l1i) + ((1 : Int32))).toInt.toNat) (aX12_turned 155 rfl) rfl (fun _ => ?_)
    exact pw_vret (aX12_turned 156 rfl) hok
def GX12_turned_191   : Nat → Int32 → Int32 → Int32 → Int32 → Int32 → Nat → Nat → (Nat → Nat × Nat) → (Nat → Nat → Int32) → (Nat → Nat → Int64) → (Nat → Nat → Option Nat) → Unit → hS → Prop
  | 0, _, _, _, _, _, _, _, _, _, _, _ => fun _ _ => False
  | g + 1, l1i, l3i, l4i, l5i, l6i, n, sl, SH, FI, FL, FR => BX12_turned_191  (GX12_turned_191   g)  l1i l3i l4i l5i l6i n sl SH FI FL FR
def RX12_turned_191   (l1i : Int32) (l3i : Int32) (l4i : Int32) (l5i : Int32) (l6i : Int32) (n sl : Nat) (SH : Nat → Nat × Nat) (FI : Nat → Nat → Int32) (FL : Nat → Nat → Int64) (FR : Nat → Nat → Option Nat) : Unit → hS → Prop := fun v s => ∃ g, GX12_turned_191   g l1i l3i l4i l5i l6i n sl SH FI FL FR v s
theorem gX12_turned_191 {sk : xK} {base d : Nat}  (hkb : x_kb sk base)  (N : Nat) :  ∀ (l1i : Int32) (l3i : Int32) (l4i : Int32) (l5i : Int32) (l6i : Int32) (l2i : Int32) (n sl : Nat) (SH : Nat → Nat × Nat) (FI : Nat → Nat → Int32) (FL : Nat → Nat → Int64) (FR : Nat → Nat → Option Nat), pk n SH FR → pw pj_V sk base N d none 236 191 [(0, .ref (base + 121)), (1, .int (l1i)), (2, .int (l2i)), (3, .int (l3i)), (4, .int (l4i)), (5, .int (l5i)), (6, .int (l6i))] [] (n, sl, SH, FI, FL, FR) (GX12_turned_191   (N + 1) l1i l3i l4i l5i l6i n sl SH FI FL FR) := by
  induction N with
  | zero => intros; exact pw_0
  | succ N ih => intro   l1i l3i l4i l5i l6i l2i n sl SH FI FL FR hok; exact bX12_turned_191 hkb  l1i l3i l4i l5i l6i l2i n sl SH FI FL FR hok  (ih  )
theorem rX12_turned_191 {sk : xK} {base N d : Nat}  (hkb : x_kb sk base)  (l1i : Int32) (l3i : Int32) (l4i : Int32) (l5i : Int32) (l6i : Int32) (l2i : Int32) (n sl : Nat) (SH : Nat → Nat × Nat) (FI : Nat → Nat → Int32) (FL : Nat → Nat → Int64) (FR : Nat → Nat → Option Nat) (hok : pk n SH FR)   : pw pj_V sk base N d none 236 191 [(0, .ref (base + 121)), (1, .int (l1i)), (2, .int (l2i)), (3, .int (l3i)), (4, .int (l4i)), (5, .int (l5i)), (6, .int (l6i))] [] (n, sl, SH, FI, FL, FR) (RX12_turned_191   l1i l3i l4i l5i l6i n sl SH FI FL FR) := pw_cons (gX12_turned_191 hkb  N   l1i l3i l4i l5i l6i l2i n sl SH FI FL FR hok) (fun _ _ h => ⟨_, h⟩)
def BX12_turned_107 (K107 : Int32 → Int32 → Int32 → Int32 → Int32 → Nat → Nat → (Nat → Nat × Nat) → (Nat → Nat → Int32) → (Nat → Nat → Int64) → (Nat → Nat → Option Nat) → Unit → hS → Prop)  (l1i : Int32) (l2i : Int32) (l3i : Int32) (l4i : Int32) (l5i : Int32) (n sl : Nat) (SH : Nat → Nat × Nat) (FI : Nat → Nat → Int32) (FL : Nat → Nat → Int64) (FR : Nat → Nat → Option Nat) : Unit → hS → Prop := (P_if ((l5i).toInt < (l4i).toInt) (P_and (p_in ((l2i) + (l5i)) (SH 154).2) (P_and (p_in (((l1i) + ((2 : Int32))) + (l5i)) (SH 154).2) (K107 (l1i) (l2i) (l3i) (l4i) ((l5i) + (1 : Int32)) n sl SH (h_up FI 154 (((l1i) + ((2 : Int32))) + (l5i)).toInt.toNat (FI 154 ((l2i) + (l5i)).toInt.toNat)) FL FR))) (P_and (p_in (((l1i) + ((2 : Int32))) + (l4i)) (SH 154).2) (P_and (p_in ((((l1i) + ((2 : Int32))) + (l4i)) + ((1 : Int32))) (SH 154).2) (P_and (p_in ((((l1i) + ((2 : Int32))) + (l4i)) + ((2 : Int32))) (SH 154).2) (RX12_turned_191   (l1i) (l3i) (l4i) (((l1i) + ((2 : Int32))) + (l4i)) ((0 : Int32)) n sl SH (h_up (h_up (h_up FI 154 (((l1i) + ((2 : Int32))) + (l4i)).toInt.toNat ((47 : Int32))) 154 ((((l1i) + ((2 : Int32))) + (l4i)) + ((1 : Int32))).toInt.toNat ((l3i) &&& ((255 : Int32)))) 154 ((((l1i) + ((2 : Int32))) + (l4i)) + ((2 : Int32))).toInt.toNat (((l3i) >>> (((8 : Int32)) &&& 31)) &&& ((255 : Int32)))) FL FR)))))
set_option maxHeartbeats 4000000 in
set_option maxRecDepth 100000 in
theorem bX12_turned_107 {sk : xK} {base N d : Nat} {K107 : Int32 → Int32 → Int32 → Int32 → Int32 → Nat → Nat → (Nat → Nat × Nat) → (Nat → Nat → Int32) → (Nat → Nat → Int64) → (Nat → Nat → Option Nat) → Unit → hS → Prop} (hkb : x_kb sk base)  (l1i : Int32) (l2i : Int32) (l3i : Int32) (l4i : Int32) (l5i : Int32)  (n sl : Nat) (SH : Nat → Nat × Nat) (FI : Nat → Nat → Int32) (FL : Nat → Nat → Int64) (FR : Nat → Nat → Option Nat) (hok : pk n SH FR)  (hK107 : ∀ (l1i : Int32) (l2i : Int32) (l3i : Int32) (l4i : Int32) (l5i : Int32) (n sl : Nat) (SH : Nat → Nat × Nat) (FI : Nat → Nat → Int32) (FL : Nat → Nat → Int64) (FR : Nat → Nat → Option Nat), pk n SH FR → pw pj_V sk base N d none 236 107 [(0, .ref (base + 121)), (1, .int (l1i)), (2, .int (l2i)), (3, .int (l3i)), (4, .int (l4i)), (5, .int (l5i))] [] (n, sl, SH, FI, FL, FR) (K107 l1i l2i l3i l4i l5i n sl SH FI FL FR)) : pw pj_V sk base (N + 1) d none 236 107 [(0, .ref (base + 121)), (1, .int (l1i)), (2, .int (l2i)), (3, .int (l3i)), (4, .int (l4i)), (5, .int (l5i))] [] (n, sl, SH, FI, FL, FR) (BX12_turned_107 K107  l1i l2i l3i l4i l5i n sl SH FI FL FR) := by
  unfold BX12_turned_107
  refine pd_iload (aX12_turned 65 rfl) rfl ?_
  refine pw_iload (aX12_turned 66 rfl) rfl ?_
  refine pw_icge (tgt := 140) (aX12_turned 67 rfl) (by decide) (fun b0 => ?_) (fun b0 => ?_)
  · skip
    refine pw_aloadn (aX12_turned 68 rfl) rfl ?_
    refine pw_getr (v := .ref (base + 154)) (aX12_turned 69 rfl) uf_RX12_120 un_RX12_120 (congrArg (fun r => va_rf (h_rf base r)) (q121_72 (hok).2.1)) ?_
    refine pw_iloadn (aX12_turned 70 rfl) rfl ?_
    refine pw_iconst (v := (2 : Int32)) (aX12_turned 71 rfl) rfl ?_
    refine pw_iadd (aX12_turned 72 rfl) ?_
    refine pw_iload (aX12_turned 73 rfl) rfl ?_
    refine pw_iadd (aX12_turned 74 rfl) ?_
    refine pw_aloadn (aX12_turned 75 rfl) rfl ?_
    refine pw_getr (v := .ref (base + 154)) (aX12_turned 76 rfl) uf_RX12_120 un_RX12_120 (congrArg (fun r => va_rf (h_rf base r)) (q121_72 (hok).2.1)) ?_
    refine pw_iloadn (aX12_turned 77 rfl) rfl ?_
    refine pw_iload (aX12_turned 78 rfl) rfl ?_
    refine pw_iadd (aX12_turned 79 rfl) ?_
    refine pw_ialdr (c := 154) (ix := ((l2i) + (l5i)).toInt.toNat) (aX12_turned 80 rfl) rfl (fun _ => ?_)
    refine pw_iastr (c := 154) (ix := (((l1i) + ((2 : Int32))) + (l5i)).toInt.toNat) (aX12_turned 81 rfl) rfl (fun _ => ?_)
    refine pw_iinc (v := (l5i) + (1 : Int32)) (L2 := [(5, .int ((l5i) + (1 : Int32))), (0, .ref (base + 121)), (1, .int (l1i)), (2, .int (l2i)), (3, .int (l3i)), (4, .int (l4i))]) (aX12_turned 82 rfl) rfl rfl rfl ?_
    refine pw_goto (tgt := 107) (aX12_turned 83 rfl) (by decide) ?_
    exact pw_Li (L2 := [(0, .ref (base + 121)), (1, .int (l1i)), (2, .int (l2i)), (3, .int (l3i)), (4, .int (l4i)), (5, .int ((l5i) + (1 : Int32)))]) [5, 0, 1, 2, 3, 4] (hK107 (l1i) (l2i) (l3i) (l4i) ((l5i) + (1 : Int32)) n sl SH (h_up FI 154 (((l1i) + ((2 : Int32))) + (l5i)).toInt.toNat (FI 154 ((l2i) + (l5i)).toInt.toNat)) FL FR hok) ⟨rfl, rfl, rfl, rfl, rfl, rfl, trivial⟩
  · skip
    refine pw_iloadn (aX12_turned 84 rfl) rfl ?_
    refine pw_iconst (v := (2 : Int32)) (aX12_turned 85 rfl) rfl ?_
    refine pw_iadd (aX12_turned 86 rfl) ?_
    refine pw_iload (aX12_turned 87 rfl) rfl ?_
    refine pw_iadd (aX12_turned 88 rfl) ?_
    refine pw_istore (L2 := [(5, .int (((l1i) + ((2 : Int32))) + (l4i))), (0, .ref (base + 121)), (1, .int (l1i)), (2, .int (l2i)), (3, .int (l3i)), (4, .int (l4i))]) (aX12_turned 89 rfl) rfl ?_
    refine pw_aloadn (aX12_turned 90 rfl) rfl ?_
    refine pw_getr (v := .ref (base + 154)) (aX12_turned 91 rfl) uf_RX12_120 un_RX12_120 (congrArg (fun r => va_rf (h_rf base r)) (q121_72 (hok).2.1)) ?_
    refine pw_iload (aX12_turned 92 rfl) rfl ?_
    refine pw_bipush (v := (47 : Int32)) (aX12_turned 93 rfl) rfl ?_
    refine pw_iastr (c := 154) (ix := (((l1i) + ((2 : Int32))) + (l4i)).toInt.toNat) (aX12_turned 94 rfl) rfl (fun _ => ?_)
    refine pw_aloadn (aX12_turned 95 rfl) rfl ?_
    refine pw_getr (v := .ref (base + 154)) (aX12_turned 96 rfl) uf_RX12_120 un_RX12_120 (congrArg (fun r => va_rf (h_rf base r)) (q121_72 (hok).2.1)) ?_
    refine pw_iload (aX12_turned 97 rfl) rfl ?_
    refine pw_iconst (v := (1 : Int32)) (aX12_turned 98 rfl) rfl ?_
    refine pw_iadd (aX12_turned 99 rfl) ?_
    refine pw_iloadn (aX12_turned 100 rfl) rfl ?_
    refine pw_sipush (v := (255 : Int32)) (aX12_turned 101 rfl) rfl ?_
    refine pw_iand (aX12_turned 102 rfl) ?_
    refine pw_iastr (c := 154) (ix := ((((l1i) + ((2 : Int32))) + (l4i)) + ((1 : Int32))).toInt.toNat) (aX12_turned 103 rfl) rfl (fun _ => ?_)
    refine pw_aloadn (aX12_turned 104 rfl) rfl ?_
    refine pw_getr (v := .ref (base + 154)) (aX12_turned 105 rfl) uf_RX12_120 un_RX12_120 (congrArg (fun r => va_rf (h_rf base r)) (q121_72 (hok).2.1)) ?_
    refine pw_iload (aX12_turned 106 rfl) rfl ?_
    refine pw_iconst (v := (2 : Int32)) (aX12_turned 107 rfl) rfl ?_
    refine pw_iadd (aX12_turned 108 rfl) ?_
    refine pw_iloadn (aX12_turned 109 rfl) rfl ?_
    refine pw_bipush (v := (8 : Int32)) (aX12_turned 110 rfl) rfl ?_
    refine pw_ishr (aX12_turned 111 rfl) ?_
    refine pw_sipush (v := (255 : Int32)) (aX12_turned 112 rfl) rfl ?_
    refine pw_iand (aX12_turned 113 rfl) ?_
    refine pw_iastr (c := 154) (ix := ((((l1i) + ((2 : Int32))) + (l4i)) + ((2 : Int32))).toInt.toNat) (aX12_turned 114 rfl) rfl (fun _ => ?_)
    refine pw_iconst (v := (0 : Int32)) (aX12_turned 115 rfl) rfl ?_
    refine pw_istore (L2 := [(6, .int ((0 : Int32))), (5, .int (((l1i) + ((2 : Int32))) + (l4i))), (0, .ref (base + 121)), (1, .int (l1i)), (2, .int (l2i)), (3, .int (l3i)), (4, .int (l4i))]) (aX12_turned 116 rfl) rfl ?_
    exact pw_Li (L2 := [(0, .ref (base + 121)), (1, .int (l1i)), (2, .int (l2i)), (3, .int (l3i)), (4, .int (l4i)), (5, .int (((l1i) + ((2 : Int32))) + (l4i))), (6, .int ((0 : Int32)))]) [6, 5, 0, 1, 2, 3, 4] (rX12_turned_191 hkb  (l1i) (l3i) (l4i) (((l1i) + ((2 : Int32))) + (l4i)) ((0 : Int32)) (l2i) n sl SH (h_up (h_up (h_up FI 154 (((l1i) + ((2 : Int32))) + (l4i)).toInt.toNat ((47 : Int32))) 154 ((((l1i) + ((2 : Int32))) + (l4i)) + ((1 : Int32))).toInt.toNat ((l3i) &&& ((255 : Int32)))) 154 ((((l1i) + ((2 : Int32))) + (l4i)) + ((2 : Int32))).toInt.toNat (((l3i) >>> (((8 : Int32)) &&& 31)) &&& ((255 : Int32)))) FL FR hok  ) ⟨rfl, rfl, rfl, rfl, rfl, rfl, rfl, trivial⟩
def GX12_turned_107   : Nat → Int32 → Int32 → Int32 → Int32 → Int32 → Nat → Nat → (Nat → Nat × Nat) → (Nat → Nat → Int32) → (Nat → Nat → Int64) → (Nat → Nat → Option Nat) → Unit → hS → Prop
  | 0, _, _, _, _, _, _, _, _, _, _, _ => fun _ _ => False
  | g + 1, l1i, l2i, l3i, l4i, l5i, n, sl, SH, FI, FL, FR => BX12_turned_107  (GX12_turned_107   g)  l1i l2i l3i l4i l5i n sl SH FI FL FR
def RX12_turned_107   (l1i : Int32) (l2i : Int32) (l3i : Int32) (l4i : Int32) (l5i : Int32) (n sl : Nat) (SH : Nat → Nat × Nat) (FI : Nat → Nat → Int32) (FL : Nat → Nat → Int64) (FR : Nat → Nat → Option Nat) : Unit → hS → Prop := fun v s => ∃ g, GX12_turned_107   g l1i l2i l3i l4i l5i n sl SH FI FL FR v s
theorem gX12_turned_107 {sk : xK} {base d : Nat}  (hkb : x_kb sk base)  (N : Nat) :  ∀ (l1i : Int32) (l2i : Int32) (l3i : Int32) (l4i : Int32) (l5i : Int32)  (n sl : Nat) (SH : Nat → Nat × Nat) (FI : Nat → Nat → Int32) (FL : Nat → Nat → Int64) (FR : Nat → Nat → Option Nat), pk n SH FR → pw pj_V sk base N d none 236 107 [(0, .ref (base + 121)), (1, .int (l1i)), (2, .int (l2i)), (3, .int (l3i)), (4, .int (l4i)), (5, .int (l5i))] [] (n, sl, SH, FI, FL, FR) (GX12_turned_107   (N + 1) l1i l2i l3i l4i l5i n sl SH FI FL FR) := by
  induction N with
  | zero => intros; exact pw_0
  | succ N ih => intro   l1i l2i l3i l4i l5i  n sl SH FI FL FR hok; exact bX12_turned_107 hkb  l1i l2i l3i l4i l5i  n sl SH FI FL FR hok  (ih  )
theorem rX12_turned_107 {sk : xK} {base N d : Nat}  (hkb : x_kb sk base)  (l1i : Int32) (l2i : Int32) (l3i : Int32) (l4i : Int32) (l5i : Int32)  (n sl : Nat) (SH : Nat → Nat × Nat) (FI : Nat → Nat → Int32) (FL : Nat → Nat → Int64) (FR : Nat → Nat → Option Nat) (hok : pk n SH FR)   : pw pj_V sk base N d none 236 107 [(0, .ref (base + 121)), (1, .int (l1i)), (2, .int (l2i)), (3, .int (l3i)), (4, .int (l4i)), (5, .int (l5i))] [] (n, sl, SH, FI, FL, FR) (RX12_turned_107   l1i l2i l3i l4i l5i n sl SH FI FL FR) := pw_cons (gX12_turned_107 hkb  N   l1i l2i l3i l4i l5i  n sl SH FI FL FR hok) (fun _ _ h => ⟨_, h⟩)
def BX12_turned_74 (K74 : Int32 → Int32 → Int32 → Int32 → Int32 → Nat → Nat → (Nat → Nat × Nat) → (Nat → Nat → Int32) → (Nat → Nat → Int64) → (Nat → Nat → Option Nat) → Unit → hS → Prop)  (l1i : Int32) (l2i : Int32) (l3i : Int32) (l4i : Int32) (l5i : Int32) (n sl : Nat) (SH : Nat → Nat × Nat) (FI : Nat → Nat → Int32) (FL : Nat → Nat → Int64) (FR : Nat → Nat → Option Nat) : Unit → hS → Prop := (P_if ((l5i).toInt < (l3i).toInt) (P_and (p_in (((l1i) + ((2 : Int32))) + (l5i)) (SH 154).2) (P_and (p_in (l5i) (SH 164).2) (K74 (l1i) (l2i) (l3i) (l4i) ((l5i) + (1 : Int32)) n sl SH (h_up FI 164 (l5i).toInt.toNat (FI 154 (((l1i) + ((2 : Int32))) + (l5i)).toInt.toNat)) FL FR))) (RX12_turned_107   (l1i) (l2i) (l3i) (l4i) ((0 : Int32)) n sl SH FI FL FR))
set_option maxHeartbeats 4000000 in
set_option maxRecDepth 100000 in
theorem bX12_turned_74 {sk : xK} {base N d : Nat} {K74 : Int32 → Int32 → Int32 → Int32 → Int32 → Nat → Nat → (Nat → Nat × Nat) → (Nat → Nat → Int32) → (Nat → Nat → Int64) → (Nat → Nat → Option Nat) → Unit → hS → Prop} (hkb : x_kb sk base)  (l1i : Int32) (l2i : Int32) (l3i : Int32) (l4i : Int32) (l5i : Int32)  (n sl : Nat) (SH : Nat → Nat × Nat) (FI : Nat → Nat → Int32) (FL : Nat → Nat → Int64) (FR : Nat → Nat → Option Nat) (hok : pk n SH FR)  (hK74 : ∀ (l1i : Int32) (l2i : Int32) (l3i : Int32) (l4i : Int32) (l5i : Int32) (n sl : Nat) (SH : Nat → Nat × Nat) (FI : Nat → Nat → Int32) (FL : Nat → Nat → Int64) (FR : Nat → Nat → Option Nat), pk n SH FR → pw pj_V sk base N d none 236 74 [(0, .ref (base + 121)), (1, .int (l1i)), (2, .int (l2i)), (3, .int (l3i)), (4, .int (l4i)), (5, .int (l5i))] [] (n, sl, SH, FI, FL, FR) (K74 l1i l2i l3i l4i l5i n sl SH FI FL FR)) : pw pj_V sk base (N + 1) d none 236 74 [(0, .ref (base + 121)), (1, .int (l1i)), (2, .int (l2i)), (3, .int (l3i)), (4, .int (l4i)), (5, .int (l5i))] [] (n, sl, SH, FI, FL, FR) (BX12_turned_74 K74  l1i l2i l3i l4i l5i n sl SH FI FL FR) := by
  unfold BX12_turned_74
  refine pd_iload (aX12_turned 46 rfl) rfl ?_
  refine pw_iloadn (aX12_turned 47 rfl) rfl ?_
  refine pw_icge (tgt := 104) (aX12_turned 48 rfl) (by decide) (fun b0 => ?_) (fun b0 => ?_)
  · skip
    refine pw_aloadn (aX12_turned 49 rfl) rfl ?_
    refine pw_getr (v := .ref (base + 164)) (aX12_turned 50 rfl) uf_RX12_151 un_RX12_151 (congrArg (fun r => va_rf (h_rf base r)) (q121_85 (hok).2.1)) ?_
    refine pw_iload (aX12_turned 51 rfl) rfl ?_
    refine pw_aloadn (aX12_turned 52 rfl) rfl ?_
    refine pw_getr (v := .ref (base + 154)) (aX12_turned 53 rfl) uf_RX12_120 un_RX12_120 (congrArg (fun r => va_rf (h_rf base r)) (q121_72 (hok).2.1)) ?_
    refine pw_iloadn (aX12_turned 54 rfl) rfl ?_
    refine pw_iconst (v := (2 : Int32)) (aX12_turned 55 rfl) rfl ?_
    refine pw_iadd (aX12_turned 56 rfl) ?_
    refine pw_iload (aX12_turned 57 rfl) rfl ?_
    refine pw_iadd (aX12_turned 58 rfl) ?_
    refine pw_ialdr (c := 154) (ix := (((l1i) + ((2 : Int32))) + (l5i)).toInt.toNat) (aX12_turned 59 rfl) rfl (fun _ => ?_)
    refine pw_iastr (c := 164) (ix := (l5i).toInt.toNat) (aX12_turned 60 rfl) rfl (fun _ => ?_)
    refine pw_iinc (v := (l5i) + (1 : Int32)) (L2 := [(5, .int ((l5i) + (1 : Int32))), (0, .ref (base + 121)), (1, .int (l1i)), (2, .int (l2i)), (3, .int (l3i)), (4, .int (l4i))]) (aX12_turned 61 rfl) rfl rfl rfl ?_
    refine pw_goto (tgt := 74) (aX12_turned 62 rfl) (by decide) ?_
    exact pw_Li (L2 := [(0, .ref (base + 121)), (1, .int (l1i)), (2, .int (l2i)), (3, .int (l3i)), (4, .int (l4i)), (5, .int ((l5i) + (1 : Int32)))]) [5, 0, 1, 2, 3, 4] (hK74 (l1i) (l2i) (l3i) (l4i) ((l5i) + (1 : Int32)) n sl SH (h_up FI 164 (l5i).toInt.toNat (FI 154 (((l1i) + ((2 : Int32))) + (l5i)).toInt.toNat)) FL FR hok) ⟨rfl, rfl, rfl, rfl, rfl, rfl, trivial⟩
  · skip
    refine pw_iconst (v := (0 : Int32)) (aX12_turned 63 rfl) rfl ?_
    refine pw_istore (L2 := [(5, .int ((0 : Int32))), (0, .ref (base + 121)), (1, .int (l1i)), (2, .int (l2i)), (3, .int (l3i)), (4, .int (l4i))]) (aX12_turned 64 rfl) rfl ?_
    exact pw_Li (L2 := [(0, .ref (base + 121)), (1, .int (l1i)), (2, .int (l2i)), (3, .int (l3i)), (4, .int (l4i)), (5, .int ((0 : Int32)))]) [5, 0, 1, 2, 3, 4] (rX12_turned_107 hkb  (l1i) (l2i) (l3i) (l4i) ((0 : Int32)) n sl SH FI FL FR hok  ) ⟨rfl, rfl, rfl, rfl, rfl, rfl, trivial⟩
def GX12_turned_74   : Nat → Int32 → Int32 → Int32 → Int32 → Int32 → Nat → Nat → (Nat → Nat × Nat) → (Nat → Nat → Int32) → (Nat → Nat → Int64) → (Nat → Nat → Option Nat) → Unit → hS → Prop
  | 0, _, _, _, _, _, _, _, _, _, _, _ => fun _ _ => False
  | g + 1, l1i, l2i, l3i, l4i, l5i, n, sl, SH, FI, FL, FR => BX12_turned_74  (GX12_turned_74   g)  l1i l2i l3i l4i l5i n sl SH FI FL FR
def RX12_turned_74   (l1i : Int32) (l2i : Int32) (l3i : Int32) (l4i : Int32) (l5i : Int32) (n sl : Nat) (SH : Nat → Nat × Nat) (FI : Nat → Nat → Int32) (FL : Nat → Nat → Int64) (FR : Nat → Nat → Option Nat) : Unit → hS → Prop := fun v s => ∃ g, GX12_turned_74   g l1i l2i l3i l4i l5i n sl SH FI FL FR v s
theorem gX12_turned_74 {sk : xK} {base d : Nat}  (hkb : x_kb sk base)  (N : Nat) :  ∀ (l1i : Int32) (l2i : Int32) (l3i : Int32) (l4i : Int32) (l5i : Int32)  (n sl : Nat) (SH : Nat → Nat × Nat) (FI : Nat → Nat → Int32) (FL : Nat → Nat → Int64) (FR : Nat → Nat → Option Nat), pk n SH FR → pw pj_V sk base N d none 236 74 [(0, .ref (base + 121)), (1, .int (l1i)), (2, .int (l2i)), (3, .int (l3i)), (4, .int (l4i)), (5, .int (l5i))] [] (n, sl, SH, FI, FL, FR) (GX12_turned_74   (N + 1) l1i l2i l3i l4i l5i n sl SH FI FL FR) := by
  induction N with
  | zero => intros; exact pw_0
  | succ N ih => intro   l1i l2i l3i l4i l5i  n sl SH FI FL FR hok; exact bX12_turned_74 hkb  l1i l2i l3i l4i l5i  n sl SH FI FL FR hok  (ih  )
theorem rX12_turned_74 {sk : xK} {base N d : Nat}  (hkb : x_kb sk base)  (l1i : Int32) (l2i : Int32) (l3i : Int32) (l4i : Int32) (l5i : Int32)  (n sl : Nat) (SH : Nat → Nat × Nat) (FI : Nat → Nat → Int32) (FL : Nat → Nat → Int64) (FR : Nat → Nat → Option Nat) (hok : pk n SH FR)   : pw pj_V sk base N d none 236 74 [(0, .ref (base + 121)), (1, .int (l1i)), (2, .int (l2i)), (3, .int (l3i)), (4, .int (l4i)), (5, .int (l5i))] [] (n, sl, SH, FI, FL, FR) (RX12_turned_74   l1i l2i l3i l4i l5i n sl SH FI FL FR) := pw_cons (gX12_turned_74 hkb  N   l1i l2i l3i l4i l5i  n sl SH FI FL FR hok) (fun _ _ h => ⟨_, h⟩)
def RX12_turned  (n sl : Nat) (SH : Nat → Nat × Nat) (FI : Nat → Nat → Int32) (FL : Nat → Nat → Int64) (FR : Nat → Nat → Option Nat) : Unit → hS → Prop := (P_and (p_in ((FI 121 90) - ((1 : Int32))) (SH 167).2) (P_and (p_in ((FI 121 90) - ((1 : Int32))) (SH 168).2) (P_bi (RX12_emits ((0 : Int64)) ((3 : Int32)) n sl SH (h_up (h_up FI 121 90 ((FI 121 90) - ((1 : Int32)))) 121 71 ((FI 121 71) - ((1 : Int32)))) FL FR) (fun v2 n2 sl2 SH2 FI2 FL2 FR2 => (P_if (((4000 : Int32)).toInt < (FI2 121 73).toInt) (P_ret () (n2, sl2, SH2, FI2, FL2, FR2)) (RX12_turned_74   (FI 167 ((FI 121 90) - ((1 : Int32))).toInt.toNat) (FI 168 ((FI 121 90) - ((1 : Int32))).toInt.toNat) (((FI 168 ((FI 121 90) - ((1 : Int32))).toInt.toNat) - (FI 167 ((FI 121 90) - ((1 : Int32))).toInt.toNat)) - ((2 : Int32))) ((FI 121 73) - (FI 168 ((FI 121 90) - ((1 : Int32))).toInt.toNat)) ((0 : Int32)) n2 sl2 SH2 FI2 FL2 FR2))))))
set_option maxHeartbeats 4000000 in
set_option maxRecDepth 100000 in
theorem rX12_turned {sk : xK} {base N d : Nat} (hkb : x_kb sk base)  (n sl : Nat) (SH : Nat → Nat × Nat) (FI : Nat → Nat → Int32) (FL : Nat → Nat → Int64) (FR : Nat → Nat → Option Nat) (hok : pk n SH FR)  : pw pj_V sk base N d none 236 0 [(0, .ref (base + 121))] [] (n, sl, SH, FI, FL, FR) (RX12_turned  n sl SH FI FL FR) := by
  unfold RX12_turned
  refine pw_aloadn (aX12_turned 0 rfl) rfl ?_
  refine pw_aloadn (aX12_turned 1 rfl) rfl ?_
  refine pw_getr (v := .int (FI 121 90)) (aX12_turned 2 rfl) uf_RX12_556 un_RX12_556 rfl ?_
  refine pw_iconst (v := (1 : Int32)) (aX12_turned 3 rfl) rfl ?_
  refine pw_isub (aX12_turned 4 rfl) ?_
  refine pw_putri (aX12_turned 5 rfl) uf_RX12_556 (fun _ _ _ => rfl) (fun t1 => ?_)
  refine pw_aloadn (aX12_turned 6 rfl) rfl ?_
  refine pw_aloadn (aX12_turned 7 rfl) rfl ?_
  refine pw_getr (v := .int (FI 121 71)) (aX12_turned 8 rfl) uf_RX12_490 un_RX12_490 rfl ?_
  refine pw_iconst (v := (1 : Int32)) (aX12_turned 9 rfl) rfl ?_
  refine pw_isub (aX12_turned 10 rfl) ?_
  refine pw_putri (aX12_turned 11 rfl) uf_RX12_490 (fun _ _ _ => rfl) (fun t2 => ?_)
  refine pw_aloadn (aX12_turned 12 rfl) rfl ?_
  refine pw_getr (v := .ref (base + 167)) (aX12_turned 13 rfl) uf_RX12_160 un_RX12_160 (congrArg (fun r => va_rf (h_rf base r)) (q121_88 (hok).2.1)) ?_
  refine pw_aloadn (aX12_turned 14 rfl) rfl ?_
  refine pw_getr (v := .int ((FI 121 90) - ((1 : Int32)))) (aX12_turned 15 rfl) uf_RX12_556 un_RX12_556 rfl ?_
  refine pw_ialdr (c := 167) (ix := ((FI 121 90) - ((1 : Int32))).toInt.toNat) (aX12_turned 16 rfl) rfl (fun _ => ?_)
  refine pw_istoren (L2 := [(1, .int (FI 167 ((FI 121 90) - ((1 : Int32))).toInt.toNat)), (0, .ref (base + 121))]) (aX12_turned 17 rfl) rfl ?_
  refine pw_aloadn (aX12_turned 18 rfl) rfl ?_
  refine pw_getr (v := .ref (base + 168)) (aX12_turned 19 rfl) uf_RX12_163 un_RX12_163 (congrArg (fun r => va_rf (h_rf base r)) (q121_89 (hok).2.1)) ?_
  refine pw_aloadn (aX12_turned 20 rfl) rfl ?_
  refine pw_getr (v := .int ((FI 121 90) - ((1 : Int32)))) (aX12_turned 21 rfl) uf_RX12_556 un_RX12_556 rfl ?_
  refine pw_ialdr (c := 168) (ix := ((FI 121 90) - ((1 : Int32))).toInt.toNat) (aX12_turned 22 rfl) rfl (fun _ => ?_)
  refine pw_istoren (L2 := [(2, .int (FI 168 ((FI 121 90) - ((1 : Int32))).toInt.toNat)), (1, .int (FI 167 ((FI 121 90) - ((1 : Int32))).toInt.toNat)), (0, .ref (base + 121))]) (aX12_turned 23 rfl) rfl ?_
  refine pw_iloadn (aX12_turned 24 rfl) rfl ?_
  refine pw_iloadn (aX12_turned 25 rfl) rfl ?_
  refine pw_isub (aX12_turned 26 rfl) ?_
  refine pw_iconst (v := (2 : Int32)) (aX12_turned 27 rfl) rfl ?_
  refine pw_isub (aX12_turned 28 rfl) ?_
  refine pw_istoren (L2 := [(3, .int (((FI 168 ((FI 121 90) - ((1 : Int32))).toInt.toNat) - (FI 167 ((FI 121 90) - ((1 : Int32))).toInt.toNat)) - ((2 : Int32)))), (2, .int (FI 168 ((FI 121 90) - ((1 : Int32))).toInt.toNat)), (1, .int (FI 167 ((FI 121 90) - ((1 : Int32))).toInt.toNat)), (0, .ref (base + 121))]) (aX12_turned 29 rfl) rfl ?_
  refine pw_aloadn (aX12_turned 30 rfl) rfl ?_
  refine pw_getr (v := .int (FI 121 73)) (aX12_turned 31 rfl) uf_RX12_493 un_RX12_493 rfl ?_
  refine pw_iloadn (aX12_turned 32 rfl) rfl ?_
  refine pw_isub (aX12_turned 33 rfl) ?_
  refine pw_istore (L2 := [(4, .int ((FI 121 73) - (FI 168 ((FI 121 90) - ((1 : Int32))).toInt.toNat))), (3, .int (((FI 168 ((FI 121 90) - ((1 : Int32))).toInt.toNat) - (FI 167 ((FI 121 90) - ((1 : Int32))).toInt.toNat)) - ((2 : Int32)))), (2, .int (FI 168 ((FI 121 90) - ((1 : Int32))).toInt.toNat)), (1, .int (FI 167 ((FI 121 90) - ((1 : Int32))).toInt.toNat)), (0, .ref (base + 121))]) (aX12_turned 34 rfl) rfl ?_
  refine pw_aloadn (aX12_turned 35 rfl) rfl ?_
  refine pw_lconst (v := (0 : Int64)) (aX12_turned 36 rfl) rfl ?_
  refine pw_iconst (v := (3 : Int32)) (aX12_turned 37 rfl) rfl ?_
  refine pw_callV (Bs := [.long ((0 : Int64)), .int ((3 : Int32))]) (rest := []) (aX12_turned 38 rfl) um_RX12_505 ujX12_emits wc_RX12_505.2.2.2.2 (by decide) (by decide) rfl rfl (fun d => rX12_emits hkb ((0 : Int64)) ((3 : Int32)) n sl SH (h_up (h_up FI 121 90 ((FI 121 90) - ((1 : Int32)))) 121 71 ((FI 121 71) - ((1 : Int32)))) FL FR hok) (fun v2 n2 sl2 SH2 FI2 FL2 FR2 hok2 _ => ?_)
  show pw _ _ _ _ _ _ _ 60 _ [] _ _
  refine pw_aloadn (aX12_turned 39 rfl) rfl ?_
  refine pw_getr (v := .int (FI2 121 73)) (aX12_turned 40 rfl) uf_RX12_493 un_RX12_493 rfl ?_
  refine pw_sipush (v := (4000 : Int32)) (aX12_turned 41 rfl) rfl ?_
  refine pw_icle (tgt := 71) (aX12_turned 42 rfl) (by decide) (fun b3 => ?_) (fun b3 => ?_)
  · skip
    exact pw_vret (aX12_turned 43 rfl) hok2
  · skip
    refine pw_iconst (v := (0 : Int32)) (aX12_turned 44 rfl) rfl ?_
    refine pw_istore (L2 := [(5, .int ((0 : Int32))), (4, .int ((FI 121 73) - (FI 168 ((FI 121 90) - ((1 : Int32))).toInt.toNat))), (3, .int (((FI 168 ((FI 121 90) - ((1 : Int32))).toInt.toNat) - (FI 167 ((FI 121 90) - ((1 : Int32))).toInt.toNat)) - ((2 : Int32)))), (2, .int (FI 168 ((FI 121 90) - ((1 : Int32))).toInt.toNat)), (1, .int (FI 167 ((FI 121 90) - ((1 : Int32))).toInt.toNat)), (0, .ref (base + 121))]) (aX12_turned 45 rfl) rfl ?_
    exact pw_Li (L2 := [(0, .ref (base + 121)), (1, .int (FI 167 ((FI 121 90) - ((1 : Int32))).toInt.toNat)), (2, .int (FI 168 ((FI 121 90) - ((1 : Int32))).toInt.toNat)), (3, .int (((FI 168 ((FI 121 90) - ((1 : Int32))).toInt.toNat) - (FI 167 ((FI 121 90) - ((1 : Int32))).toInt.toNat)) - ((2 : Int32)))), (4, .int ((FI 121 73) - (FI 168 ((FI 121 90) - ((1 : Int32))).toInt.toNat))), (5, .int ((0 : Int32)))]) [5, 4, 3, 2, 1, 0] (rX12_turned_74 hkb  (FI 167 ((FI 121 90) - ((1 : Int32))).toInt.toNat) (FI 168 ((FI 121 90) - ((1 : Int32))).toInt.toNat) (((FI 168 ((FI 121 90) - ((1 : Int32))).toInt.toNat) - (FI 167 ((FI 121 90) - ((1 : Int32))).toInt.toNat)) - ((2 : Int32))) ((FI 121 73) - (FI 168 ((FI 121 90) - ((1 : Int32))).toInt.toNat)) ((0 : Int32)) n2 sl2 SH2 FI2 FL2 FR2 hok2  ) ⟨rfl, rfl, rfl, rfl, rfl, rfl, trivial⟩
def BX12_reducedAll_5 (K5 : Nat → Nat → (Nat → Nat × Nat) → (Nat → Nat → Int32) → (Nat → Nat → Int64) → (Nat → Nat → Option Nat) → Unit → hS → Prop)   (n sl : Nat) (SH : Nat → Nat × Nat) (FI : Nat → Nat → Int32) (FL : Nat → Nat → Int64) (FR : Nat → Nat → Option Nat) : Unit → hS → Prop := (P_if ((fX12_tops  SH FI FL FR).toInt = ((-3 : Int32)).toInt) (P_bi (RX12_turned  n sl SH FI FL FR) (fun v2 n2 sl2 SH2 FI2 FL2 FR2 => (P_bi (RX12_reduced ((1 : Int32)) n2 sl2 SH2 FI2 FL2 FR2) (fun v3 n3 sl3 SH3 FI3 FL3 FR3 => (K5  n3 sl3 SH3 FI3 FL3 FR3))))) (P_ret () (n, sl, SH, FI, FL, FR)))
set_option maxHeartbeats 4000000 in
set_option maxRecDepth 100000 in
theorem bX12_reducedAll_5 {sk : xK} {base N d : Nat} {K5 : Nat → Nat → (Nat → Nat × Nat) → (Nat → Nat → Int32) → (Nat → Nat → Int64) → (Nat → Nat → Option Nat) → Unit → hS → Prop} (hkb : x_kb sk base)    (n sl : Nat) (SH : Nat → Nat × Nat) (FI : Nat → Nat → Int32) (FL : Nat → Nat → Int64) (FR : Nat → Nat → Option Nat) (hok : pk n SH FR)  (hK5 : ∀  (n sl : Nat) (SH : Nat → Nat × Nat) (FI : Nat → Nat → Int32) (FL : Nat → Nat → Int64) (FR : Nat → Nat → Option Nat), pk n SH FR → pw pj_V sk base N d none 237 5 [(0, .ref (base + 121))] [] (n, sl, SH, FI, FL, FR) (K5  n sl SH FI FL FR)) : pw pj_V sk base (N + 1) d none 237 5 [(0, .ref (base + 121))] [] (n, sl, SH, FI, FL, FR) (BX12_reducedAll_5 K5   n sl SH FI FL FR) := by
  unfold BX12_reducedAll_5
  refine pd_aloadn (aX12_reducedAll 3 rfl) rfl ?_
  refine pw_cf (pw_callV (Bs := []) (rest := []) (aX12_reducedAll 4 rfl) um_RX12_559 ujX12_tops wc_RX12_559.2.2.2.2 (by decide) (by decide) rfl rfl (fun d => rX12_tops hkb  n sl SH FI FL FR hok) (fun v0 n0 sl0 SH0 FI0 FL0 FR0 _ hC => ?_))
  obtain ⟨rfl, hC⟩ := hC; cases hC
  show pw _ _ _ _ _ _ _ 9 _ [.int (fX12_tops  SH FI FL FR)] _ _
  refine pw_bipush (v := (-3 : Int32)) (aX12_reducedAll 5 rfl) rfl ?_
  refine pw_icne (tgt := 26) (aX12_reducedAll 6 rfl) (by decide) (fun b1 => ?_) (fun b1 => ?_)
  · skip
    refine pw_aloadn (aX12_reducedAll 7 rfl) rfl ?_
    refine pw_callV (Bs := []) (rest := []) (aX12_reducedAll 8 rfl) um_RX12_569 ujX12_turned wc_RX12_569.2.2.2.2 (by decide) (by decide) rfl rfl (fun d => rX12_turned hkb  n sl SH FI FL FR hok) (fun v2 n2 sl2 SH2 FI2 FL2 FR2 hok2 _ => ?_)
    show pw _ _ _ _ _ _ _ 18 _ [] _ _
    refine pw_aloadn (aX12_reducedAll 9 rfl) rfl ?_
    refine pw_iconst (v := (1 : Int32)) (aX12_reducedAll 10 rfl) rfl ?_
    refine pw_callV (Bs := [.int ((1 : Int32))]) (rest := []) (aX12_reducedAll 11 rfl) um_RX12_566 ujX12_reduced wc_RX12_566.2.2.2.2 (by decide) (by decide) rfl rfl (fun d => rX12_reduced hkb ((1 : Int32)) n2 sl2 SH2 FI2 FL2 FR2 hok2) (fun v3 n3 sl3 SH3 FI3 FL3 FR3 hok3 _ => ?_)
    show pw _ _ _ _ _ _ _ 23 _ [] _ _
    refine pw_goto (tgt := 5) (aX12_reducedAll 12 rfl) (by decide) ?_
    exact pw_Li (L2 := [(0, .ref (base + 121))]) [0] (hK5  n3 sl3 SH3 FI3 FL3 FR3 hok3) ⟨rfl, trivial⟩
  · skip
    exact pw_vret (aX12_reducedAll 13 rfl) hok
def GX12_reducedAll_5   : Nat → Nat → Nat → (Nat → Nat × Nat) → (Nat → Nat → Int32) → (Nat → Nat → Int64) → (Nat → Nat → Option Nat) → Unit → hS → Prop
  | 0, _, _, _, _, _, _ => fun _ _ => False
  | g + 1, n, sl, SH, FI, FL, FR => BX12_reducedAll_5  (GX12_reducedAll_5   g)   n sl SH FI FL FR
def RX12_reducedAll_5    (n sl : Nat) (SH : Nat → Nat × Nat) (FI : Nat → Nat → Int32) (FL : Nat → Nat → Int64) (FR : Nat → Nat → Option Nat) : Unit → hS → Prop := fun v s => ∃ g, GX12_reducedAll_5   g  n sl SH FI FL FR v s
theorem gX12_reducedAll_5 {sk : xK} {base d : Nat}  (hkb : x_kb sk base)  (N : Nat) :  ∀   (n sl : Nat) (SH : Nat → Nat × Nat) (FI : Nat → Nat → Int32) (FL : Nat → Nat → Int64) (FR : Nat → Nat → Option Nat), pk n SH FR → pw pj_V sk base N d none 237 5 [(0, .ref (base + 121))] [] (n, sl, SH, FI, FL, FR) (GX12_reducedAll_5   (N + 1)  n sl SH FI FL FR) := by
  induction N with
  | zero => intros; exact pw_0
  | succ N ih => intro     n sl SH FI FL FR hok; exact bX12_reducedAll_5 hkb    n sl SH FI FL FR hok  (ih  )
theorem rX12_reducedAll_5 {sk : xK} {base N d : Nat}  (hkb : x_kb sk base)    (n sl : Nat) (SH : Nat → Nat × Nat) (FI : Nat → Nat → Int32) (FL : Nat → Nat → Int64) (FR : Nat → Nat → Option Nat) (hok : pk n SH FR)   : pw pj_V sk base N d none 237 5 [(0, .ref (base + 121))] [] (n, sl, SH, FI, FL, FR) (RX12_reducedAll_5    n sl SH FI FL FR) := pw_cons (gX12_reducedAll_5 hkb  N     n sl SH FI FL FR hok) (fun _ _ h => ⟨_, h⟩)
def RX12_reducedAll  (n sl : Nat) (SH : Nat → Nat × Nat) (FI : Nat → Nat → Int32) (FL : Nat → Nat → Int64) (FR : Nat → Nat → Option Nat) : Unit → hS → Prop := (P_bi (RX12_reduced ((1 : Int32)) n sl SH FI FL FR) (fun v0 n0 sl0 SH0 FI0 FL0 FR0 => (RX12_reducedAll_5    n0 sl0 SH0 FI0 FL0 FR0)))
set_option maxHeartbeats 4000000 in
set_option maxRecDepth 100000 in
theorem rX12_reducedAll {sk : xK} {base N d : Nat} (hkb : x_kb sk base)  (n sl : Nat) (SH : Nat → Nat × Nat) (FI : Nat → Nat → Int32) (FL : Nat → Nat → Int64) (FR : Nat → Nat → Option Nat) (hok : pk n SH FR)  : pw pj_V sk base N d none 237 0 [(0, .ref (base + 121))] [] (n, sl, SH, FI, FL, FR) (RX12_reducedAll  n sl SH FI FL FR) := by
  unfold RX12_reducedAll
  refine pw_aloadn (aX12_reducedAll 0 rfl) rfl ?_
  refine pw_iconst (v := (1 : Int32)) (aX12_reducedAll 1 rfl) rfl ?_
  refine pw_callV (Bs := [.int ((1 : Int32))]) (rest := []) (aX12_reducedAll 2 rfl) um_RX12_566 ujX12_reduced wc_RX12_566.2.2.2.2 (by decide) (by decide) rfl rfl (fun d => rX12_reduced hkb ((1 : Int32)) n sl SH FI FL FR hok) (fun v0 n0 sl0 SH0 FI0 FL0 FR0 hok0 _ => ?_)
  show pw _ _ _ _ _ _ _ 5 _ [] _ _
  exact pw_Li (L2 := [(0, .ref (base + 121))]) [0] (rX12_reducedAll_5 hkb   n0 sl0 SH0 FI0 FL0 FR0 hok0  ) ⟨rfl, trivial⟩
def RX12_binary (a1 : Int32) (a2 : Int32) (n sl : Nat) (SH : Nat → Nat × Nat) (FI : Nat → Nat → Int32) (FL : Nat → Nat → Int64) (FR : Nat → Nat → Option Nat) : Int32 → hS → Prop := (P_bi (RX12_reduced (a2) n sl SH FI FL FR) (fun v0 n0 sl0 SH0 FI0 FL0 FR0 => (P_bi (RX12_later (a1) (a2) n0 sl0 SH0 FI0 FL0 FR0) (fun v1 n1 sl1 SH1 FI1 FL1 FR1 => (P_ret ((1 : Int32)) (n1, sl1, SH1, (h_up FI1 121 68 ((FI1 121 68) + ((1 : Int32)))), FL1, FR1))))))
set_option maxHeartbeats 4000000 in
set_option maxRecDepth 100000 in
theorem rX12_binary {sk : xK} {base N d : Nat} (hkb : x_kb sk base) (a1 : Int32) (a2 : Int32) (n sl : Nat) (SH : Nat → Nat × Nat) (FI : Nat → Nat → Int32) (FL : Nat → Nat → Int64) (FR : Nat → Nat → Option Nat) (hok : pk n SH FR)  : pw pj_I sk base N d none 244 0 [(0, .ref (base + 121)), (1, .int (a1)), (2, .int (a2))] [] (n, sl, SH, FI, FL, FR) (RX12_binary a1 a2 n sl SH FI FL FR) := by
  unfold RX12_binary
  refine pw_aloadn (aX12_binary 0 rfl) rfl ?_
  refine pw_iloadn (aX12_binary 1 rfl) rfl ?_
  refine pw_callV (Bs := [.int (a2)]) (rest := []) (aX12_binary 2 rfl) um_RX12_566 ujX12_reduced wc_RX12_566.2.2.2.2 (by decide) (by decide) rfl rfl (fun d => rX12_reduced hkb (a2) n sl SH FI FL FR hok) (fun v0 n0 sl0 SH0 FI0 FL0 FR0 hok0 _ => ?_)
  show pw _ _ _ _ _ _ _ 5 _ [] _ _
  refine pw_aloadn (aX12_binary 3 rfl) rfl ?_
  refine pw_iloadn (aX12_binary 4 rfl) rfl ?_
  refine pw_iloadn (aX12_binary 5 rfl) rfl ?_
  refine pw_callV (Bs := [.int (a1), .int (a2)]) (rest := []) (aX12_binary 6 rfl) um_RX12_580 ujX12_later wc_RX12_580.2.2.2.2 (by decide) (by decide) rfl rfl (fun d => rX12_later hkb (a1) (a2) n0 sl0 SH0 FI0 FL0 FR0 hok0) (fun v1 n1 sl1 SH1 FI1 FL1 FR1 hok1 _ => ?_)
  show pw _ _ _ _ _ _ _ 11 _ [] _ _
  refine pw_aloadn (aX12_binary 7 rfl) rfl ?_
  refine pw_aloadn (aX12_binary 8 rfl) rfl ?_
  refine pw_getr (v := .int (FI1 121 68)) (aX12_binary 9 rfl) uf_RX12_478 un_RX12_478 rfl ?_
  refine pw_iconst (v := (1 : Int32)) (aX12_binary 10 rfl) rfl ?_
  refine pw_iadd (aX12_binary 11 rfl) ?_
  refine pw_putri (aX12_binary 12 rfl) uf_RX12_478 (fun _ _ _ => rfl) (fun t3 => ?_)
  refine pw_iconst (v := (1 : Int32)) (aX12_binary 13 rfl) rfl ?_
  exact pw_iret (aX12_binary 14 rfl) hok1
def RX12_added_75   (l1i : Int32) (n sl : Nat) (SH : Nat → Nat × Nat) (FI : Nat → Nat → Int32) (FL : Nat → Nat → Int64) (FR : Nat → Nat → Option Nat) : Int32 → hS → Prop := (P_if ((l1i).toInt = 0) (P_bi (RX12_later ((28 : Int32)) ((6 : Int32)) n sl SH FI FL FR) (fun v1 n1 sl1 SH1 FI1 FL1 FR1 => (P_ret ((1 : Int32)) (n1, sl1, SH1, FI1, FL1, FR1)))) (P_bi (RX12_later ((34 : Int32)) ((6 : Int32)) n sl SH FI FL FR) (fun v2 n2 sl2 SH2 FI2 FL2 FR2 => (P_ret ((1 : Int32)) (n2, sl2, SH2, FI2, FL2, FR2)))))
set_option maxHeartbeats 4000000 in
set_option maxRecDepth 100000 in
theorem rX12_added_75 {sk : xK} {base N d : Nat}  (hkb : x_kb sk base)  (l1i : Int32)  (n sl : Nat) (SH : Nat → Nat × Nat) (FI : Nat → Nat → Int32) (FL : Nat → Nat → Int64) (FR : Nat → Nat → Option Nat) (hok : pk n SH FR)   : pw pj_I sk base N d none 245 75 [(0, .ref (base + 121)), (1, .int (l1i))] [] (n, sl, SH, FI, FL, FR) (RX12_added_75   l1i n sl SH FI FL FR) := by
  unfold RX12_added_75
  refine pw_aloadn (aX12_added 40 rfl) rfl ?_
  refine pw_iloadn (aX12_added 41 rfl) rfl ?_
  refine pw_ifeq (tgt := 85) (aX12_added 42 rfl) (by decide) (fun b0 => ?_) (fun b0 => ?_)
  · skip
    refine pw_bipush (v := (28 : Int32)) (aX12_added 45 rfl) rfl ?_
    refine pw_bipush (v := (6 : Int32)) (aX12_added 46 rfl) rfl ?_
    refine pw_callV (Bs := [.int ((28 : Int32)), .int ((6 : Int32))]) (rest := []) (aX12_added 47 rfl) um_RX12_580 ujX12_later wc_RX12_580.2.2.2.2 (by decide) (by decide) rfl rfl (fun d => rX12_later hkb ((28 : Int32)) ((6 : Int32)) n sl SH FI FL FR hok) (fun v1 n1 sl1 SH1 FI1 FL1 FR1 hok1 _ => ?_)
    show pw _ _ _ _ _ _ _ 92 _ [] _ _
    refine pw_iconst (v := (1 : Int32)) (aX12_added 48 rfl) rfl ?_
    exact pw_iret (aX12_added 49 rfl) hok1
  · skip
    refine pw_bipush (v := (34 : Int32)) (aX12_added 43 rfl) rfl ?_
    refine pw_goto (tgt := 87) (aX12_added 44 rfl) (by decide) ?_
    refine pw_bipush (v := (6 : Int32)) (aX12_added 46 rfl) rfl ?_
    refine pw_callV (Bs := [.int ((34 : Int32)), .int ((6 : Int32))]) (rest := []) (aX12_added 47 rfl) um_RX12_580 ujX12_later wc_RX12_580.2.2.2.2 (by decide) (by decide) rfl rfl (fun d => rX12_later hkb ((34 : Int32)) ((6 : Int32)) n sl SH FI FL FR hok) (fun v2 n2 sl2 SH2 FI2 FL2 FR2 hok2 _ => ?_)
    show pw _ _ _ _ _ _ _ 92 _ [] _ _
    refine pw_iconst (v := (1 : Int32)) (aX12_added 48 rfl) rfl ?_
    exact pw_iret (aX12_added 49 rfl) hok2
def RX12_added  (n sl : Nat) (SH : Nat → Nat × Nat) (FI : Nat → Nat → Int32) (FL : Nat → Nat → Int64) (FR : Nat → Nat → Option Nat) : Int32 → hS → Prop := (P_bi (RX12_reduced ((6 : Int32)) n sl SH FI FL FR) (fun v1 n1 sl1 SH1 FI1 FL1 FR1 => (P_if ((fX12_isSign ((43 : Int32)) SH FI FL FR).toInt = 0) (RX12_added_75   (fX12_isSign ((43 : Int32)) SH FI FL FR) n1 sl1 SH1 (h_up FI1 121 68 ((FI1 121 68) + ((1 : Int32)))) FL1 FR1) (P_if ((fX12_isAlone ((FI1 121 68) + ((1 : Int32))) SH1 (h_up FI1 121 68 ((FI1 121 68) + ((1 : Int32)))) FL1 FR1).toInt = 0) (RX12_added_75   (fX12_isSign ((43 : Int32)) SH FI FL FR) n1 sl1 SH1 (h_up FI1 121 68 ((FI1 121 68) + ((1 : Int32)))) FL1 FR1) (P_bi (RX12_emit ((35 : Int32)) n1 sl1 SH1 (h_up FI1 121 68 ((FI1 121 68) + ((1 : Int32)))) FL1 FR1) (fun v6 n6 sl6 SH6 FI6 FL6 FR6 => (P_and (p_in (FI6 121 68) (SH6 150).2) (P_bi (RX12_unsigned (FL6 150 (FI6 121 68).toInt.toNat) n6 sl6 SH6 FI6 FL6 FR6) (fun v7 n7 sl7 SH7 FI7 FL7 FR7 => (P_ret ((1 : Int32)) (n7, sl7, SH7, (h_up (h_up FI7 121 68 ((FI7 121 68) + ((1 : Int32)))) 121 91 ((1 : Int32))), FL7, FR7)))))))))))
set_option maxHeartbeats 4000000 in
set_option maxRecDepth 100000 in
theorem rX12_added {sk : xK} {base N d : Nat} (hkb : x_kb sk base)  (n sl : Nat) (SH : Nat → Nat × Nat) (FI : Nat → Nat → Int32) (FL : Nat → Nat → Int64) (FR : Nat → Nat → Option Nat) (hok : pk n SH FR)  : pw pj_I sk base N d none 245 0 [(0, .ref (base + 121))] [] (n, sl, SH, FI, FL, FR) (RX12_added  n sl SH FI FL FR) := by
  unfold RX12_added
  refine pw_aloadn (aX12_added 0 rfl) rfl ?_
  refine pw_bipush (v := (43 : Int32)) (aX12_added 1 rfl) rfl ?_
  refine pw_cf (pw_callV (Bs := [.int ((43 : Int32))]) (rest := []) (aX12_added 2 rfl) um_RX12_484 ujX12_isSign wc_RX12_484.2.2.2.2 (by decide) (by decide) rfl rfl (fun d => rX12_isSign hkb ((43 : Int32)) n sl SH FI FL FR hok) (fun v0 n0 sl0 SH0 FI0 FL0 FR0 _ hC => ?_))
  obtain ⟨rfl, hC⟩ := hC; cases hC
  show pw _ _ _ _ _ _ _ 6 _ [.int (fX12_isSign ((43 : Int32)) SH FI FL FR)] _ _
  refine pw_istoren (L2 := [(1, .int (fX12_isSign ((43 : Int32)) SH FI FL FR)), (0, .ref (base + 121))]) (aX12_added 3 rfl) rfl ?_
  refine pw_aloadn (aX12_added 4 rfl) rfl ?_
  refine pw_bipush (v := (6 : Int32)) (aX12_added 5 rfl) rfl ?_
  refine pw_callV (Bs := [.int ((6 : Int32))]) (rest := []) (aX12_added 6 rfl) um_RX12_566 ujX12_reduced wc_RX12_566.2.2.2.2 (by decide) (by decide) rfl rfl (fun d => rX12_reduced hkb ((6 : Int32)) n sl SH FI FL FR hok) (fun v1 n1 sl1 SH1 FI1 FL1 FR1 hok1 _ => ?_)
  show pw _ _ _ _ _ _ _ 13 _ [] _ _
  refine pw_aloadn (aX12_added 7 rfl) rfl ?_
  refine pw_aloadn (aX12_added 8 rfl) rfl ?_
  refine pw_getr (v := .int (FI1 121 68)) (aX12_added 9 rfl) uf_RX12_478 un_RX12_478 rfl ?_
  refine pw_iconst (v := (1 : Int32)) (aX12_added 10 rfl) rfl ?_
  refine pw_iadd (aX12_added 11 rfl) ?_
  refine pw_putri (aX12_added 12 rfl) uf_RX12_478 (fun _ _ _ => rfl) (fun t3 => ?_)
  refine pw_iloadn (aX12_added 13 rfl) rfl ?_
  refine pw_ifeq (tgt := 75) (aX12_added 14 rfl) (by decide) (fun b3 => ?_) (fun b3 => ?_)
  · skip
    exact pw_Li (L2 := [(0, .ref (base + 121)), (1, .int (fX12_isSign ((43 : Int32)) SH FI FL FR))]) [1, 0] (rX12_added_75 hkb  (fX12_isSign ((43 : Int32)) SH FI FL FR) n1 sl1 SH1 (h_up FI1 121 68 ((FI1 121 68) + ((1 : Int32)))) FL1 FR1 hok1  ) ⟨rfl, rfl, trivial⟩
  · skip
    refine pw_aloadn (aX12_added 15 rfl) rfl ?_
    refine pw_aloadn (aX12_added 16 rfl) rfl ?_
    refine pw_getr (v := .int ((FI1 121 68) + ((1 : Int32)))) (aX12_added 17 rfl) uf_RX12_478 un_RX12_478 rfl ?_
    refine pw_cf (pw_callV (Bs := [.int ((FI1 121 68) + ((1 : Int32)))]) (rest := []) (aX12_added 18 rfl) um_RX12_602 ujX12_isAlone wc_RX12_602.2.2.2.2 (by decide) (by decide) rfl rfl (fun d => rX12_isAlone hkb ((FI1 121 68) + ((1 : Int32))) n1 sl1 SH1 (h_up FI1 121 68 ((FI1 121 68) + ((1 : Int32)))) FL1 FR1 hok1) (fun v4 n4 sl4 SH4 FI4 FL4 FR4 _ hC => ?_))
    obtain ⟨rfl, hC⟩ := hC; cases hC
    show pw _ _ _ _ _ _ _ 35 _ [.int (fX12_isAlone ((FI1 121 68) + ((1 : Int32))) SH1 (h_up FI1 121 68 ((FI1 121 68) + ((1 : Int32)))) FL1 FR1)] _ _
    refine pw_ifeq (tgt := 75) (aX12_added 19 rfl) (by decide) (fun b5 => ?_) (fun b5 => ?_)
    · skip
      exact pw_Li (L2 := [(0, .ref (base + 121)), (1, .int (fX12_isSign ((43 : Int32)) SH FI FL FR))]) [1, 0] (rX12_added_75 hkb  (fX12_isSign ((43 : Int32)) SH FI FL FR) n1 sl1 SH1 (h_up FI1 121 68 ((FI1 121 68) + ((1 : Int32)))) FL1 FR1 hok1  ) ⟨rfl, rfl, trivial⟩
    · skip
      refine pw_aloadn (aX12_added 20 rfl) rfl ?_
      refine pw_bipush (v := (35 : Int32)) (aX12_added 21 rfl) rfl ?_
      refine pw_callV (Bs := [.int ((35 : Int32))]) (rest := []) (aX12_added 22 rfl) um_RX12_496 ujX12_emit wc_RX12_496.2.2.2.2 (by decide) (by decide) rfl rfl (fun d => rX12_emit hkb ((35 : Int32)) n1 sl1 SH1 (h_up FI1 121 68 ((FI1 121 68) + ((1 : Int32)))) FL1 FR1 hok1) (fun v6 n6 sl6 SH6 FI6 FL6 FR6 hok6 _ => ?_)
      show pw _ _ _ _ _ _ _ 44 _ [] _ _
      refine pw_aloadn (aX12_added 23 rfl) rfl ?_
      refine pw_aloadn (aX12_added 24 rfl) rfl ?_
      refine pw_getr (v := .ref (base + 150)) (aX12_added 25 rfl) uf_RX12_108 un_RX12_108 (congrArg (fun r => va_rf (h_rf base r)) (q121_63 (hok6).2.1)) ?_
      refine pw_aloadn (aX12_added 26 rfl) rfl ?_
      refine pw_getr (v := .int (FI6 121 68)) (aX12_added 27 rfl) uf_RX12_478 un_RX12_478 rfl ?_
      refine pw_laldr (c := 150) (ix := (FI6 121 68).toInt.toNat) (aX12_added 28 rfl) rfl (fun _ => ?_)
      refine pw_callV (Bs := [.long (FL6 150 (FI6 121 68).toInt.toNat)]) (rest := []) (aX12_added 29 rfl) um_RX12_549 ujX12_unsigned wc_RX12_549.2.2.2.2 (by decide) (by decide) rfl rfl (fun d => rX12_unsigned hkb (FL6 150 (FI6 121 68).toInt.toNat) n6 sl6 SH6 FI6 FL6 FR6 hok6) (fun v7 n7 sl7 SH7 FI7 FL7 FR7 hok7 _ => ?_)
      show pw _ _ _ _ _ _ _ 57 _ [] _ _
      refine pw_aloadn (aX12_added 30 rfl) rfl ?_
      refine pw_aloadn (aX12_added 31 rfl) rfl ?_
      refine pw_getr (v := .int (FI7 121 68)) (aX12_added 32 rfl) uf_RX12_478 un_RX12_478 rfl ?_
      refine pw_iconst (v := (1 : Int32)) (aX12_added 33 rfl) rfl ?_
      refine pw_iadd (aX12_added 34 rfl) ?_
      refine pw_putri (aX12_added 35 rfl) uf_RX12_478 (fun _ _ _ => rfl) (fun t9 => ?_)
      refine pw_aloadn (aX12_added 36 rfl) rfl ?_
      refine pw_iconst (v := (1 : Int32)) (aX12_added 37 rfl) rfl ?_
      refine pw_putri (aX12_added 38 rfl) uf_RX12_577 (fun _ _ _ => rfl) (fun t10 => ?_)
      refine pw_goto (tgt := 92) (aX12_added 39 rfl) (by decide) ?_
      refine pw_iconst (v := (1 : Int32)) (aX12_added 48 rfl) rfl ?_
      exact pw_iret (aX12_added 49 rfl) hok7
def RX12_ended_120    (n sl : Nat) (SH : Nat → Nat × Nat) (FI : Nat → Nat → Int32) (FL : Nat → Nat → Int64) (FR : Nat → Nat → Option Nat) : Int32 → hS → Prop := (P_if (0 < (FI 121 90).toInt) (P_bi (RX12_fail ((1 : Int32)) n sl SH FI FL FR) (fun v1 n1 sl1 SH1 FI1 FL1 FR1 => (P_ret ((0 : Int32)) (n1, sl1, SH1, FI1, FL1, FR1)))) (P_ret ((0 : Int32)) (n, sl, SH, FI, FL, FR)))
set_option maxHeartbeats 4000000 in
set_option maxRecDepth 100000 in
theorem rX12_ended_120 {sk : xK} {base N d : Nat}  (hkb : x_kb sk base)    (n sl : Nat) (SH : Nat → Nat × Nat) (FI : Nat → Nat → Int32) (FL : Nat → Nat → Int64) (FR : Nat → Nat → Option Nat) (hok : pk n SH FR)   : pw pj_I sk base N d none 243 120 [(0, .ref (base + 121))] [] (n, sl, SH, FI, FL, FR) (RX12_ended_120    n sl SH FI FL FR) := by
  unfold RX12_ended_120
  refine pw_aloadn (aX12_ended 68 rfl) rfl ?_
  refine pw_getr (v := .int (FI 121 90)) (aX12_ended 69 rfl) uf_RX12_556 un_RX12_556 rfl ?_
  refine pw_ifle (tgt := 132) (aX12_ended 70 rfl) (by decide) (fun b0 => ?_) (fun b0 => ?_)
  · skip
    refine pw_aloadn (aX12_ended 71 rfl) rfl ?_
    refine pw_iconst (v := (1 : Int32)) (aX12_ended 72 rfl) rfl ?_
    refine pw_callV (Bs := [.int ((1 : Int32))]) (rest := []) (aX12_ended 73 rfl) um_RX12_487 ujX12_fail wc_RX12_487.2.2.2.2 (by decide) (by decide) rfl rfl (fun d => rX12_fail hkb ((1 : Int32)) n sl SH FI FL FR hok) (fun v1 n1 sl1 SH1 FI1 FL1 FR1 hok1 _ => ?_)
    show pw _ _ _ _ _ _ _ 132 _ [] _ _
    refine pw_iconst (v := (0 : Int32)) (aX12_ended 74 rfl) rfl ?_
    exact pw_iret (aX12_ended 75 rfl) hok1
  · skip
    refine pw_iconst (v := (0 : Int32)) (aX12_ended 74 rfl) rfl ?_
    exact pw_iret (aX12_ended 75 rfl) hok
def RX12_ended_62    (n sl : Nat) (SH : Nat → Nat × Nat) (FI : Nat → Nat → Int32) (FL : Nat → Nat → Int64) (FR : Nat → Nat → Option Nat) : Int32 → hS → Prop := (P_if ((fX12_isSign ((41 : Int32)) SH FI FL FR).toInt = 0) (RX12_ended_120    n sl SH FI FL FR) (P_if ((fX12_tops  SH FI FL FR).toInt = ((-1 : Int32)).toInt) (P_bi (RX12_finished  n sl SH (h_up (h_up (h_up FI 121 90 ((FI 121 90) - ((1 : Int32)))) 121 71 ((FI 121 71) - ((1 : Int32)))) 121 68 ((FI 121 68) + ((1 : Int32)))) FL FR) (fun v7 n7 sl7 SH7 FI7 FL7 FR7 => (P_ret ((1 : Int32)) (n7, sl7, SH7, (h_up FI7 121 91 ((1 : Int32))), FL7, FR7)))) (RX12_ended_120    n sl SH FI FL FR)))
set_option maxHeartbeats 4000000 in
set_option maxRecDepth 100000 in
theorem rX12_ended_62 {sk : xK} {base N d : Nat}  (hkb : x_kb sk base)    (n sl : Nat) (SH : Nat → Nat × Nat) (FI : Nat → Nat → Int32) (FL : Nat → Nat → Int64) (FR : Nat → Nat → Option Nat) (hok : pk n SH FR)   : pw pj_I sk base N d none 243 62 [(0, .ref (base + 121))] [] (n, sl, SH, FI, FL, FR) (RX12_ended_62    n sl SH FI FL FR) := by
  unfold RX12_ended_62
  refine pw_aloadn (aX12_ended 35 rfl) rfl ?_
  refine pw_bipush (v := (41 : Int32)) (aX12_ended 36 rfl) rfl ?_
  refine pw_cf (pw_callV (Bs := [.int ((41 : Int32))]) (rest := []) (aX12_ended 37 rfl) um_RX12_484 ujX12_isSign wc_RX12_484.2.2.2.2 (by decide) (by decide) rfl rfl (fun d => rX12_isSign hkb ((41 : Int32)) n sl SH FI FL FR hok) (fun v0 n0 sl0 SH0 FI0 FL0 FR0 _ hC => ?_))
  obtain ⟨rfl, hC⟩ := hC; cases hC
  show pw _ _ _ _ _ _ _ 68 _ [.int (fX12_isSign ((41 : Int32)) SH FI FL FR)] _ _
  refine pw_ifeq (tgt := 120) (aX12_ended 38 rfl) (by decide) (fun b1 => ?_) (fun b1 => ?_)
  · skip
    exact pw_Li (L2 := [(0, .ref (base + 121))]) [0] (rX12_ended_120 hkb   n sl SH FI FL FR hok  ) ⟨rfl, trivial⟩
  · skip
    refine pw_aloadn (aX12_ended 39 rfl) rfl ?_
    refine pw_cf (pw_callV (Bs := []) (rest := []) (aX12_ended 40 rfl) um_RX12_559 ujX12_tops wc_RX12_559.2.2.2.2 (by decide) (by decide) rfl rfl (fun d => rX12_tops hkb  n sl SH FI FL FR hok) (fun v2 n2 sl2 SH2 FI2 FL2 FR2 _ hC => ?_))
    obtain ⟨rfl, hC⟩ := hC; cases hC
    show pw _ _ _ _ _ _ _ 75 _ [.int (fX12_tops  SH FI FL FR)] _ _
    refine pw_iconst (v := (-1 : Int32)) (aX12_ended 41 rfl) rfl ?_
    refine pw_icne (tgt := 120) (aX12_ended 42 rfl) (by decide) (fun b3 => ?_) (fun b3 => ?_)
    · skip
      refine pw_aloadn (aX12_ended 43 rfl) rfl ?_
      refine pw_aloadn (aX12_ended 44 rfl) rfl ?_
      refine pw_getr (v := .int (FI 121 90)) (aX12_ended 45 rfl) uf_RX12_556 un_RX12_556 rfl ?_
      refine pw_iconst (v := (1 : Int32)) (aX12_ended 46 rfl) rfl ?_
      refine pw_isub (aX12_ended 47 rfl) ?_
      refine pw_putri (aX12_ended 48 rfl) uf_RX12_556 (fun _ _ _ => rfl) (fun t5 => ?_)
      refine pw_aloadn (aX12_ended 49 rfl) rfl ?_
      refine pw_aloadn (aX12_ended 50 rfl) rfl ?_
      refine pw_getr (v := .int (FI 121 71)) (aX12_ended 51 rfl) uf_RX12_490 un_RX12_490 rfl ?_
      refine pw_iconst (v := (1 : Int32)) (aX12_ended 52 rfl) rfl ?_
      refine pw_isub (aX12_ended 53 rfl) ?_
      refine pw_putri (aX12_ended 54 rfl) uf_RX12_490 (fun _ _ _ => rfl) (fun t6 => ?_)
      refine pw_aloadn (aX12_ended 55 rfl) rfl ?_
      refine pw_aloadn (aX12_ended 56 rfl) rfl ?_
      refine pw_getr (v := .int (FI 121 68)) (aX12_ended 57 rfl) uf_RX12_478 un_RX12_478 rfl ?_
      refine pw_iconst (v := (1 : Int32)) (aX12_ended 58 rfl) rfl ?_
      refine pw_iadd (aX12_ended 59 rfl) ?_
      refine pw_putri (aX12_ended 60 rfl) uf_RX12_478 (fun _ _ _ => rfl) (fun t7 => ?_)
      refine pw_aloadn (aX12_ended 61 rfl) rfl ?_
      refine pw_callV (Bs := []) (rest := []) (aX12_ended 62 rfl) um_RX12_596 ujX12_finished wc_RX12_596.2.2.2.2 (by decide) (by decide) rfl rfl (fun d => rX12_finished hkb  n sl SH (h_up (h_up (h_up FI 121 90 ((FI 121 90) - ((1 : Int32)))) 121 71 ((FI 121 71) - ((1 : Int32)))) 121 68 ((FI 121 68) + ((1 : Int32)))) FL FR hok) (fun v7 n7 sl7 SH7 FI7 FL7 FR7 hok7 _ => ?_)
      show pw _ _ _ _ _ _ _ 113 _ [] _ _
      refine pw_aloadn (aX12_ended 63 rfl) rfl ?_
      refine pw_iconst (v := (1 : Int32)) (aX12_ended 64 rfl) rfl ?_
      refine pw_putri (aX12_ended 65 rfl) uf_RX12_577 (fun _ _ _ => rfl) (fun t9 => ?_)
      refine pw_iconst (v := (1 : Int32)) (aX12_ended 66 rfl) rfl ?_
      exact pw_iret (aX12_ended 67 rfl) hok7
    · skip
      exact pw_Li (L2 := [(0, .ref (base + 121))]) [0] (rX12_ended_120 hkb   n sl SH FI FL FR hok  ) ⟨rfl, trivial⟩
def RX12_ended  (n sl : Nat) (SH : Nat → Nat × Nat) (FI : Nat → Nat → Int32) (FL : Nat → Nat → Int64) (FR : Nat → Nat → Option Nat) : Int32 → hS → Prop := (P_bi (RX12_reducedAll  n sl SH FI FL FR) (fun v0 n0 sl0 SH0 FI0 FL0 FR0 => (P_if ((fX12_isSign ((58 : Int32)) SH0 FI0 FL0 FR0).toInt = 0) (RX12_ended_62    n0 sl0 SH0 FI0 FL0 FR0) (P_if ((fX12_tops  SH0 FI0 FL0 FR0).toInt = ((-2 : Int32)).toInt) (P_and (p_in ((FI0 121 90) - ((1 : Int32))) (SH0 168).2) (P_and (p_in ((FI0 121 90) - ((1 : Int32))) (SH0 166).2) (P_ret ((1 : Int32)) (n0, sl0, SH0, (h_up (h_up (h_up FI0 168 ((FI0 121 90) - ((1 : Int32))).toInt.toNat (FI0 121 73)) 166 ((FI0 121 90) - ((1 : Int32))).toInt.toNat ((-3 : Int32))) 121 68 ((FI0 121 68) + ((1 : Int32)))), FL0, FR0)))) (RX12_ended_62    n0 sl0 SH0 FI0 FL0 FR0)))))
set_option maxHeartbeats 4000000 in
set_option maxRecDepth 100000 in
theorem rX12_ended {sk : xK} {base N d : Nat} (hkb : x_kb sk base)  (n sl : Nat) (SH : Nat → Nat × Nat) (FI : Nat → Nat → Int32) (FL : Nat → Nat → Int64) (FR : Nat → Nat → Option Nat) (hok : pk n SH FR)  : pw pj_I sk base N d none 243 0 [(0, .ref (base + 121))] [] (n, sl, SH, FI, FL, FR) (RX12_ended  n sl SH FI FL FR) := by
  unfold RX12_ended
  refine pw_aloadn (aX12_ended 0 rfl) rfl ?_
  refine pw_callV (Bs := []) (rest := []) (aX12_ended 1 rfl) um_RX12_626 ujX12_reducedAll wc_RX12_626.2.2.2.2 (by decide) (by decide) rfl rfl (fun d => rX12_reducedAll hkb  n sl SH FI FL FR hok) (fun v0 n0 sl0 SH0 FI0 FL0 FR0 hok0 _ => ?_)
  show pw _ _ _ _ _ _ _ 4 _ [] _ _
  refine pw_aloadn (aX12_ended 2 rfl) rfl ?_
  refine pw_bipush (v := (58 : Int32)) (aX12_ended 3 rfl) rfl ?_
  refine pw_cf (pw_callV (Bs := [.int ((58 : Int32))]) (rest := []) (aX12_ended 4 rfl) um_RX12_484 ujX12_isSign wc_RX12_484.2.2.2.2 (by decide) (by decide) rfl rfl (fun d => rX12_isSign hkb ((58 : Int32)) n0 sl0 SH0 FI0 FL0 FR0 hok0) (fun v1 n1 sl1 SH1 FI1 FL1 FR1 _ hC => ?_))
  obtain ⟨rfl, hC⟩ := hC; cases hC
  show pw _ _ _ _ _ _ _ 10 _ [.int (fX12_isSign ((58 : Int32)) SH0 FI0 FL0 FR0)] _ _
  refine pw_ifeq (tgt := 62) (aX12_ended 5 rfl) (by decide) (fun b2 => ?_) (fun b2 => ?_)
  · skip
    exact pw_Li (L2 := [(0, .ref (base + 121))]) [0] (rX12_ended_62 hkb   n0 sl0 SH0 FI0 FL0 FR0 hok0  ) ⟨rfl, trivial⟩
  · skip
    refine pw_aloadn (aX12_ended 6 rfl) rfl ?_
    refine pw_cf (pw_callV (Bs := []) (rest := []) (aX12_ended 7 rfl) um_RX12_559 ujX12_tops wc_RX12_559.2.2.2.2 (by decide) (by decide) rfl rfl (fun d => rX12_tops hkb  n0 sl0 SH0 FI0 FL0 FR0 hok0) (fun v3 n3 sl3 SH3 FI3 FL3 FR3 _ hC => ?_))
    obtain ⟨rfl, hC⟩ := hC; cases hC
    show pw _ _ _ _ _ _ _ 17 _ [.int (fX12_tops  SH0 FI0 FL0 FR0)] _ _
    refine pw_bipush (v := (-2 : Int32)) (aX12_ended 8 rfl) rfl ?_
    refine pw_icne (tgt := 62) (aX12_ended 9 rfl) (by decide) (fun b4 => ?_) (fun b4 => ?_)
    · skip
      refine pw_aloadn (aX12_ended 10 rfl) rfl ?_
      refine pw_getr (v := .ref (base + 168)) (aX12_ended 11 rfl) uf_RX12_163 un_RX12_163 (congrArg (fun r => va_rf (h_rf base r)) (q121_89 (hok0).2.1)) ?_
      refine pw_aloadn (aX12_ended 12 rfl) rfl ?_
      refine pw_getr (v := .int (FI0 121 90)) (aX12_ended 13 rfl) uf_RX12_556 un_RX12_556 rfl ?_
      refine pw_iconst (v := (1 : Int32)) (aX12_ended 14 rfl) rfl ?_
      refine pw_isub (aX12_ended 15 rfl) ?_
      refine pw_aloadn (aX12_ended 16 rfl) rfl ?_
      refine pw_getr (v := .int (FI0 121 73)) (aX12_ended 17 rfl) uf_RX12_493 un_RX12_493 rfl ?_
      refine pw_iastr (c := 168) (ix := ((FI0 121 90) - ((1 : Int32))).toInt.toNat) (aX12_ended 18 rfl) rfl (fun _ => ?_)
      refine pw_aloadn (aX12_ended 19 rfl) rfl ?_
      refine pw_getr (v := .ref (base + 166)) (aX12_ended 20 rfl) uf_RX12_157 un_RX12_157 (congrArg (fun r => va_rf (h_rf base r)) (q121_87 (hok0).2.1)) ?_
      refine pw_aloadn (aX12_ended 21 rfl) rfl ?_
      refine pw_getr (v := .int (FI0 121 90)) (aX12_ended 22 rfl) uf_RX12_556 un_RX12_556 rfl ?_
      refine pw_iconst (v := (1 : Int32)) (aX12_ended 23 rfl) rfl ?_
      refine pw_isub (aX12_ended 24 rfl) ?_
      refine pw_bipush (v := (-3 : Int32)) (aX12_ended 25 rfl) rfl ?_
      refine pw_iastr (c := 166) (ix := ((FI0 121 90) - ((1 : Int32))).toInt.toNat) (aX12_ended 26 rfl) rfl (fun _ => ?_)
      refine pw_aloadn (aX12_ended 27 rfl) rfl ?_
      refine pw_aloadn (aX12_ended 28 rfl) rfl ?_
      refine pw_getr (v := .int (FI0 121 68)) (aX12_ended 29 rfl) uf_RX12_478 un_RX12_478 rfl ?_
      refine pw_iconst (v := (1 : Int32)) (aX12_ended 30 rfl) rfl ?_
      refine pw_iadd (aX12_ended 31 rfl) ?_
      refine pw_putri (aX12_ended 32 rfl) uf_RX12_478 (fun _ _ _ => rfl) (fun t6 => ?_)
      refine pw_iconst (v := (1 : Int32)) (aX12_ended 33 rfl) rfl ?_
      exact pw_iret (aX12_ended 34 rfl) hok0
    · skip
      exact pw_Li (L2 := [(0, .ref (base + 121))]) [0] (rX12_ended_62 hkb   n0 sl0 SH0 FI0 FL0 FR0 hok0  ) ⟨rfl, trivial⟩
def RX12_combined_16  (a1 : Int32) (s0i : Int32) (n sl : Nat) (SH : Nat → Nat × Nat) (FI : Nat → Nat → Int32) (FL : Nat → Nat → Int64) (FR : Nat → Nat → Option Nat) : Int64 → hS → Prop := (P_if ((s0i).toInt = 0) (P_ret ((0 : Int64)) (n, sl, SH, FI, FL, FR)) (P_if ((fX12_adds (a1) SH FI FL FR).toInt = 0) (P_ret ((0 : Int64)) (n, sl, SH, FI, FL, FR)) (P_if ((fX12_isAlone ((a1) + ((1 : Int32))) SH FI FL FR).toInt = 0) (P_ret ((0 : Int64)) (n, sl, SH, FI, FL, FR)) (P_and (p_in (a1) (SH 150).2) (P_if ((FL 150 (a1).toInt.toNat).toInt = ((43 : Int64)).toInt) (P_and (p_in ((a1) + ((1 : Int32))) (SH 150).2) (P_ret (FL 150 ((a1) + ((1 : Int32))).toInt.toNat) (n, sl, SH, (h_up FI 121 68 ((a1) + ((2 : Int32)))), FL, FR))) (P_and (p_in ((a1) + ((1 : Int32))) (SH 150).2) (P_ret (-(FL 150 ((a1) + ((1 : Int32))).toInt.toNat)) (n, sl, SH, (h_up FI 121 68 ((a1) + ((2 : Int32)))), FL, FR))))))))
set_option maxHeartbeats 4000000 in
set_option maxRecDepth 100000 in
theorem rX12_combined_16 {sk : xK} {base N d : Nat}  (hkb : x_kb sk base) (a1 : Int32) (s0i : Int32) (l2i : Int32) (n sl : Nat) (SH : Nat → Nat × Nat) (FI : Nat → Nat → Int32) (FL : Nat → Nat → Int64) (FR : Nat → Nat → Option Nat) (hok : pk n SH FR)   : pw pj_J sk base N d none 241 16 [(0, .ref (base + 121)), (1, .int (a1)), (2, .int (l2i))] [.int (s0i)] (n, sl, SH, FI, FL, FR) (RX12_combined_16  a1 s0i n sl SH FI FL FR) := by
  unfold RX12_combined_16
  refine pw_istoren (L2 := [(3, .int (s0i)), (0, .ref (base + 121)), (1, .int (a1)), (2, .int (l2i))]) (aX12_combined 9 rfl) rfl ?_
  refine pw_iloadn (aX12_combined 10 rfl) rfl ?_
  refine pw_ifeq (tgt := 39) (aX12_combined 11 rfl) (by decide) (fun b0 => ?_) (fun b0 => ?_)
  · skip
    refine pw_lconst (v := (0 : Int64)) (aX12_combined 22 rfl) rfl ?_
    exact pw_lret (aX12_combined 23 rfl) hok
  · skip
    refine pw_aloadn (aX12_combined 12 rfl) rfl ?_
    refine pw_iloadn (aX12_combined 13 rfl) rfl ?_
    refine pw_cf (pw_callV (Bs := [.int (a1)]) (rest := []) (aX12_combined 14 rfl) um_RX12_599 ujX12_adds wc_RX12_599.2.2.2.2 (by decide) (by decide) rfl rfl (fun d => rX12_adds hkb (a1) n sl SH FI FL FR hok) (fun v1 n1 sl1 SH1 FI1 FL1 FR1 _ hC => ?_))
    obtain ⟨rfl, hC⟩ := hC; cases hC
    show pw _ _ _ _ _ _ _ 26 _ [.int (fX12_adds (a1) SH FI FL FR)] _ _
    refine pw_ifeq (tgt := 39) (aX12_combined 15 rfl) (by decide) (fun b2 => ?_) (fun b2 => ?_)
    · skip
      refine pw_lconst (v := (0 : Int64)) (aX12_combined 22 rfl) rfl ?_
      exact pw_lret (aX12_combined 23 rfl) hok
    · skip
      refine pw_aloadn (aX12_combined 16 rfl) rfl ?_
      refine pw_iloadn (aX12_combined 17 rfl) rfl ?_
      refine pw_iconst (v := (1 : Int32)) (aX12_combined 18 rfl) rfl ?_
      refine pw_iadd (aX12_combined 19 rfl) ?_
      refine pw_cf (pw_callV (Bs := [.int ((a1) + ((1 : Int32)))]) (rest := []) (aX12_combined 20 rfl) um_RX12_602 ujX12_isAlone wc_RX12_602.2.2.2.2 (by decide) (by decide) rfl rfl (fun d => rX12_isAlone hkb ((a1) + ((1 : Int32))) n sl SH FI FL FR hok) (fun v3 n3 sl3 SH3 FI3 FL3 FR3 _ hC => ?_))
      obtain ⟨rfl, hC⟩ := hC; cases hC
      show pw _ _ _ _ _ _ _ 36 _ [.int (fX12_isAlone ((a1) + ((1 : Int32))) SH FI FL FR)] _ _
      refine pw_ifne (tgt := 41) (aX12_combined 21 rfl) (by decide) (fun b4 => ?_) (fun b4 => ?_)
      · skip
        refine pw_lconst (v := (0 : Int64)) (aX12_combined 22 rfl) rfl ?_
        exact pw_lret (aX12_combined 23 rfl) hok
      · skip
        refine pw_aloadn (aX12_combined 24 rfl) rfl ?_
        refine pw_iloadn (aX12_combined 25 rfl) rfl ?_
        refine pw_iconst (v := (2 : Int32)) (aX12_combined 26 rfl) rfl ?_
        refine pw_iadd (aX12_combined 27 rfl) ?_
        refine pw_putri (aX12_combined 28 rfl) uf_RX12_478 (fun _ _ _ => rfl) (fun t6 => ?_)
        refine pw_aloadn (aX12_combined 29 rfl) rfl ?_
        refine pw_getr (v := .ref (base + 150)) (aX12_combined 30 rfl) uf_RX12_108 un_RX12_108 (congrArg (fun r => va_rf (h_rf base r)) (q121_63 (hok).2.1)) ?_
        refine pw_iloadn (aX12_combined 31 rfl) rfl ?_
        refine pw_laldr (c := 150) (ix := (a1).toInt.toNat) (aX12_combined 32 rfl) rfl (fun _ => ?_)
        refine pw_ldc2 (v := (43 : Int64)) (aX12_combined 33 rfl) uk_RX12_605 ?_
        refine pw_lcne (tgt := 72) (aX12_combined 34 rfl) (aX12_combined 35 rfl) (by decide) (fun b6 => ?_) (fun b6 => ?_)
        · skip
          refine pw_aloadn (aX12_combined 36 rfl) rfl ?_
          refine pw_getr (v := .ref (base + 150)) (aX12_combined 37 rfl) uf_RX12_108 un_RX12_108 (congrArg (fun r => va_rf (h_rf base r)) (q121_63 (hok).2.1)) ?_
          refine pw_iloadn (aX12_combined 38 rfl) rfl ?_
          refine pw_iconst (v := (1 : Int32)) (aX12_combined 39 rfl) rfl ?_
          refine pw_iadd (aX12_combined 40 rfl) ?_
          refine pw_laldr (c := 150) (ix := ((a1) + ((1 : Int32))).toInt.toNat) (aX12_combined 41 rfl) rfl (fun _ => ?_)
          refine pw_goto (tgt := 81) (aX12_combined 42 rfl) (by decide) ?_
          exact pw_lret (aX12_combined 50 rfl) hok
        · skip
          refine pw_aloadn (aX12_combined 43 rfl) rfl ?_
          refine pw_getr (v := .ref (base + 150)) (aX12_combined 44 rfl) uf_RX12_108 un_RX12_108 (congrArg (fun r => va_rf (h_rf base r)) (q121_63 (hok).2.1)) ?_
          refine pw_iloadn (aX12_combined 45 rfl) rfl ?_
          refine pw_iconst (v := (1 : Int32)) (aX12_combined 46 rfl) rfl ?_
          refine pw_iadd (aX12_combined 47 rfl) ?_
          refine pw_laldr (c := 150) (ix := ((a1) + ((1 : Int32))).toInt.toNat) (aX12_combined 48 rfl) rfl (fun _ => ?_)
          refine pw_lneg (aX12_combined 49 rfl) ?_
          exact pw_lret (aX12_combined 50 rfl) hok
def RX12_combined (a1 : Int32) (n sl : Nat) (SH : Nat → Nat × Nat) (FI : Nat → Nat → Int32) (FL : Nat → Nat → Int64) (FR : Nat → Nat → Option Nat) : Int64 → hS → Prop := (P_if ((fX12_tops  SH FI FL FR).toInt < ((6 : Int32)).toInt) (RX12_combined_16  a1 ((1 : Int32)) n sl SH FI FL FR) (RX12_combined_16  a1 ((0 : Int32)) n sl SH FI FL FR))
set_option maxHeartbeats 4000000 in
set_option maxRecDepth 100000 in
theorem rX12_combined {sk : xK} {base N d : Nat} (hkb : x_kb sk base) (a1 : Int32) (n sl : Nat) (SH : Nat → Nat × Nat) (FI : Nat → Nat → Int32) (FL : Nat → Nat → Int64) (FR : Nat → Nat → Option Nat) (hok : pk n SH FR)  : pw pj_J sk base N d none 241 0 [(0, .ref (base + 121)), (1, .int (a1))] [] (n, sl, SH, FI, FL, FR) (RX12_combined a1 n sl SH FI FL FR) := by
  unfold RX12_combined
  refine pw_aloadn (aX12_combined 0 rfl) rfl ?_
  refine pw_cf (pw_callV (Bs := []) (rest := []) (aX12_combined 1 rfl) um_RX12_559 ujX12_tops wc_RX12_559.2.2.2.2 (by decide) (by decide) rfl rfl (fun d => rX12_tops hkb  n sl SH FI FL FR hok) (fun v0 n0 sl0 SH0 FI0 FL0 FR0 _ hC => ?_))
  obtain ⟨rfl, hC⟩ := hC; cases hC
  show pw _ _ _ _ _ _ _ 4 _ [.int (fX12_tops  SH FI FL FR)] _ _
  refine pw_istoren (L2 := [(2, .int (fX12_tops  SH FI FL FR)), (0, .ref (base + 121)), (1, .int (a1))]) (aX12_combined 2 rfl) rfl ?_
  refine pw_iloadn (aX12_combined 3 rfl) rfl ?_
  refine pw_bipush (v := (6 : Int32)) (aX12_combined 4 rfl) rfl ?_
  refine pw_icge (tgt := 15) (aX12_combined 5 rfl) (by decide) (fun b1 => ?_) (fun b1 => ?_)
  · skip
    refine pw_iconst (v := (1 : Int32)) (aX12_combined 6 rfl) rfl ?_
    refine pw_goto (tgt := 16) (aX12_combined 7 rfl) (by decide) ?_
    exact pw_Li (L2 := [(0, .ref (base + 121)), (1, .int (a1)), (2, .int (fX12_tops  SH FI FL FR))]) [2, 0, 1] (rX12_combined_16 hkb a1 ((1 : Int32)) (fX12_tops  SH FI FL FR) n sl SH FI FL FR hok  ) ⟨rfl, rfl, rfl, trivial⟩
  · skip
    refine pw_iconst (v := (0 : Int32)) (aX12_combined 8 rfl) rfl ?_
    exact pw_Li (L2 := [(0, .ref (base + 121)), (1, .int (a1)), (2, .int (fX12_tops  SH FI FL FR))]) [2, 0, 1] (rX12_combined_16 hkb a1 ((0 : Int32)) (fX12_tops  SH FI FL FR) n sl SH FI FL FR hok  ) ⟨rfl, rfl, rfl, trivial⟩
def RX12_registered_52    (n sl : Nat) (SH : Nat → Nat × Nat) (FI : Nat → Nat → Int32) (FL : Nat → Nat → Int64) (FR : Nat → Nat → Option Nat) : Unit → hS → Prop := (P_if ((FI 121 69).toInt = 0) (P_and (p_in (FI 121 68) (SH 150).2) (P_bi (RX12_emit (((112 : Int32)) + ((FL 150 (FI 121 68).toInt.toNat).toInt32)) n sl SH FI FL FR) (fun v1 n1 sl1 SH1 FI1 FL1 FR1 => (P_bi (RX12_combined ((FI1 121 68) + ((1 : Int32))) n1 sl1 SH1 (h_up FI1 121 68 ((FI1 121 68) + ((1 : Int32)))) FL1 FR1) (fun v3 n3 sl3 SH3 FI3 FL3 FR3 => (P_bi (RX12_signed (v3) n3 sl3 SH3 FI3 FL3 FR3) (fun v4 n4 sl4 SH4 FI4 FL4 FR4 => (P_ret () (n4, sl4, SH4, FI4, FL4, FR4))))))))) (P_ret () (n, sl, SH, FI, FL, FR)))
set_option maxHeartbeats 4000000 in
set_option maxRecDepth 100000 in
theorem rX12_registered_52 {sk : xK} {base N d : Nat}  (hkb : x_kb sk base)    (n sl : Nat) (SH : Nat → Nat × Nat) (FI : Nat → Nat → Int32) (FL : Nat → Nat → Int64) (FR : Nat → Nat → Option Nat) (hok : pk n SH FR)   : pw pj_V sk base N d none 240 52 [(0, .ref (base + 121))] [] (n, sl, SH, FI, FL, FR) (RX12_registered_52    n sl SH FI FL FR) := by
  unfold RX12_registered_52
  refine pw_aloadn (aX12_registered 28 rfl) rfl ?_
  refine pw_getr (v := .int (FI 121 69)) (aX12_registered 29 rfl) uf_RX12_475 un_RX12_475 rfl ?_
  refine pw_ifeq (tgt := 60) (aX12_registered 30 rfl) (by decide) (fun b0 => ?_) (fun b0 => ?_)
  · skip
    refine pw_aloadn (aX12_registered 32 rfl) rfl ?_
    refine pw_bipush (v := (112 : Int32)) (aX12_registered 33 rfl) rfl ?_
    refine pw_aloadn (aX12_registered 34 rfl) rfl ?_
    refine pw_getr (v := .ref (base + 150)) (aX12_registered 35 rfl) uf_RX12_108 un_RX12_108 (congrArg (fun r => va_rf (h_rf base r)) (q121_63 (hok).2.1)) ?_
    refine pw_aloadn (aX12_registered 36 rfl) rfl ?_
    refine pw_getr (v := .int (FI 121 68)) (aX12_registered 37 rfl) uf_RX12_478 un_RX12_478 rfl ?_
    refine pw_laldr (c := 150) (ix := (FI 121 68).toInt.toNat) (aX12_registered 38 rfl) rfl (fun _ => ?_)
    refine pw_l2i (aX12_registered 39 rfl) ?_
    refine pw_iadd (aX12_registered 40 rfl) ?_
    refine pw_callV (Bs := [.int (((112 : Int32)) + ((FL 150 (FI 121 68).toInt.toNat).toInt32))]) (rest := []) (aX12_registered 41 rfl) um_RX12_496 ujX12_emit wc_RX12_496.2.2.2.2 (by decide) (by decide) rfl rfl (fun d => rX12_emit hkb (((112 : Int32)) + ((FL 150 (FI 121 68).toInt.toNat).toInt32)) n sl SH FI FL FR hok) (fun v1 n1 sl1 SH1 FI1 FL1 FR1 hok1 _ => ?_)
    show pw _ _ _ _ _ _ _ 77 _ [] _ _
    refine pw_aloadn (aX12_registered 42 rfl) rfl ?_
    refine pw_aloadn (aX12_registered 43 rfl) rfl ?_
    refine pw_getr (v := .int (FI1 121 68)) (aX12_registered 44 rfl) uf_RX12_478 un_RX12_478 rfl ?_
    refine pw_iconst (v := (1 : Int32)) (aX12_registered 45 rfl) rfl ?_
    refine pw_iadd (aX12_registered 46 rfl) ?_
    refine pw_putri (aX12_registered 47 rfl) uf_RX12_478 (fun _ _ _ => rfl) (fun t3 => ?_)
    refine pw_aloadn (aX12_registered 48 rfl) rfl ?_
    refine pw_aloadn (aX12_registered 49 rfl) rfl ?_
    refine pw_aloadn (aX12_registered 50 rfl) rfl ?_
    refine pw_getr (v := .int ((FI1 121 68) + ((1 : Int32)))) (aX12_registered 51 rfl) uf_RX12_478 un_RX12_478 rfl ?_
    refine pw_callV (Bs := [.int ((FI1 121 68) + ((1 : Int32)))]) (rest := [.ref (base + 121)]) (aX12_registered 52 rfl) um_RX12_589 ujX12_combined wc_RX12_589.2.2.2.2 (by decide) (by decide) rfl rfl (fun d => rX12_combined hkb ((FI1 121 68) + ((1 : Int32))) n1 sl1 SH1 (h_up FI1 121 68 ((FI1 121 68) + ((1 : Int32)))) FL1 FR1 hok1) (fun v3 n3 sl3 SH3 FI3 FL3 FR3 hok3 _ => ?_)
    show pw _ _ _ _ _ _ _ 96 _ [.long (v3), .ref (base + 121)] _ _
    refine pw_callV (Bs := [.long (v3)]) (rest := []) (aX12_registered 53 rfl) um_RX12_593 ujX12_signed wc_RX12_593.2.2.2.2 (by decide) (by decide) rfl rfl (fun d => rX12_signed hkb (v3) n3 sl3 SH3 FI3 FL3 FR3 hok3) (fun v4 n4 sl4 SH4 FI4 FL4 FR4 hok4 _ => ?_)
    show pw _ _ _ _ _ _ _ 99 _ [] _ _
    exact pw_vret (aX12_registered 54 rfl) hok4
  · skip
    exact pw_vret (aX12_registered 31 rfl) hok
def RX12_registered  (n sl : Nat) (SH : Nat → Nat × Nat) (FI : Nat → Nat → Int32) (FL : Nat → Nat → Int64) (FR : Nat → Nat → Option Nat) : Unit → hS → Prop := (P_and (p_in ((FI 121 68) + ((1 : Int32))) (SH 149).2) (P_if ((FI 149 ((FI 121 68) + ((1 : Int32))).toInt.toNat).toInt = ((3 : Int32)).toInt) (P_and (p_in ((FI 121 68) + ((1 : Int32))) (SH 150).2) (P_if (((31 : Int64)).toInt < (FL 150 ((FI 121 68) + ((1 : Int32))).toInt.toNat).toInt) (P_bi (RX12_fail ((2 : Int32)) n sl SH (h_up FI 121 68 ((FI 121 68) + ((1 : Int32)))) FL FR) (fun v3 n3 sl3 SH3 FI3 FL3 FR3 => (RX12_registered_52    n3 sl3 SH3 FI3 FL3 FR3))) (RX12_registered_52    n sl SH (h_up FI 121 68 ((FI 121 68) + ((1 : Int32)))) FL FR))) (P_bi (RX12_fail ((1 : Int32)) n sl SH (h_up FI 121 68 ((FI 121 68) + ((1 : Int32)))) FL FR) (fun v4 n4 sl4 SH4 FI4 FL4 FR4 => (RX12_registered_52    n4 sl4 SH4 FI4 FL4 FR4)))))
set_option maxHeartbeats 4000000 in
set_option maxRecDepth 100000 in
theorem rX12_registered {sk : xK} {base N d : Nat} (hkb : x_kb sk base)  (n sl : Nat) (SH : Nat → Nat × Nat) (FI : Nat → Nat → Int32) (FL : Nat → Nat → Int64) (FR : Nat → Nat → Option Nat) (hok : pk n SH FR)  : pw pj_V sk base N d none 240 0 [(0, .ref (base + 121))] [] (n, sl, SH, FI, FL, FR) (RX12_registered  n sl SH FI FL FR) := by
  unfold RX12_registered
  refine pw_aloadn (aX12_registered 0 rfl) rfl ?_
  refine pw_aloadn (aX12_registered 1 rfl) rfl ?_
  refine pw_getr (v := .int (FI 121 68)) (aX12_registered 2 rfl) uf_RX12_478 un_RX12_478 rfl ?_
  refine pw_iconst (v := (1 : Int32)) (aX12_registered 3 rfl) rfl ?_
  refine pw_iadd (aX12_registered 4 rfl) ?_
  refine pw_putri (aX12_registered 5 rfl) uf_RX12_478 (fun _ _ _ => rfl) (fun t1 => ?_)
  refine pw_aloadn (aX12_registered 6 rfl) rfl ?_
  refine pw_getr (v := .ref (base + 149)) (aX12_registered 7 rfl) uf_RX12_105 un_RX12_105 (congrArg (fun r => va_rf (h_rf base r)) (q121_62 (hok).2.1)) ?_
  refine pw_aloadn (aX12_registered 8 rfl) rfl ?_
  refine pw_getr (v := .int ((FI 121 68) + ((1 : Int32)))) (aX12_registered 9 rfl) uf_RX12_478 un_RX12_478 rfl ?_
  refine pw_ialdr (c := 149) (ix := ((FI 121 68) + ((1 : Int32))).toInt.toNat) (aX12_registered 10 rfl) rfl (fun _ => ?_)
  refine pw_iconst (v := (3 : Int32)) (aX12_registered 11 rfl) rfl ?_
  refine pw_iceq (tgt := 31) (aX12_registered 12 rfl) (by decide) (fun b1 => ?_) (fun b1 => ?_)
  · skip
    refine pw_aloadn (aX12_registered 17 rfl) rfl ?_
    refine pw_getr (v := .ref (base + 150)) (aX12_registered 18 rfl) uf_RX12_108 un_RX12_108 (congrArg (fun r => va_rf (h_rf base r)) (q121_63 (hok).2.1)) ?_
    refine pw_aloadn (aX12_registered 19 rfl) rfl ?_
    refine pw_getr (v := .int ((FI 121 68) + ((1 : Int32)))) (aX12_registered 20 rfl) uf_RX12_478 un_RX12_478 rfl ?_
    refine pw_laldr (c := 150) (ix := ((FI 121 68) + ((1 : Int32))).toInt.toNat) (aX12_registered 21 rfl) rfl (fun _ => ?_)
    refine pw_ldc2 (v := (31 : Int64)) (aX12_registered 22 rfl) uk_RX12_310 ?_
    refine pw_lcle (tgt := 52) (aX12_registered 23 rfl) (aX12_registered 24 rfl) (by decide) (fun b2 => ?_) (fun b2 => ?_)
    · skip
      refine pw_aloadn (aX12_registered 25 rfl) rfl ?_
      refine pw_iconst (v := (2 : Int32)) (aX12_registered 26 rfl) rfl ?_
      refine pw_callV (Bs := [.int ((2 : Int32))]) (rest := []) (aX12_registered 27 rfl) um_RX12_487 ujX12_fail wc_RX12_487.2.2.2.2 (by decide) (by decide) rfl rfl (fun d => rX12_fail hkb ((2 : Int32)) n sl SH (h_up FI 121 68 ((FI 121 68) + ((1 : Int32)))) FL FR hok) (fun v3 n3 sl3 SH3 FI3 FL3 FR3 hok3 _ => ?_)
      show pw _ _ _ _ _ _ _ 52 _ [] _ _
      exact pw_Li (L2 := [(0, .ref (base + 121))]) [0] (rX12_registered_52 hkb   n3 sl3 SH3 FI3 FL3 FR3 hok3  ) ⟨rfl, trivial⟩
    · skip
      exact pw_Li (L2 := [(0, .ref (base + 121))]) [0] (rX12_registered_52 hkb   n sl SH (h_up FI 121 68 ((FI 121 68) + ((1 : Int32)))) FL FR hok  ) ⟨rfl, trivial⟩
  · skip
    refine pw_aloadn (aX12_registered 13 rfl) rfl ?_
    refine pw_iconst (v := (1 : Int32)) (aX12_registered 14 rfl) rfl ?_
    refine pw_callV (Bs := [.int ((1 : Int32))]) (rest := []) (aX12_registered 15 rfl) um_RX12_487 ujX12_fail wc_RX12_487.2.2.2.2 (by decide) (by decide) rfl rfl (fun d => rX12_fail hkb ((1 : Int32)) n sl SH (h_up FI 121 68 ((FI 121 68) + ((1 : Int32)))) FL FR hok) (fun v4 n4 sl4 SH4 FI4 FL4 FR4 hok4 _ => ?_)
    show pw _ _ _ _ _ _ _ 28 _ [] _ _
    refine pw_goto (tgt := 52) (aX12_registered 16 rfl) (by decide) ?_
    exact pw_Li (L2 := [(0, .ref (base + 121))]) [0] (rX12_registered_52 hkb   n4 sl4 SH4 FI4 FL4 FR4 hok4  ) ⟨rfl, trivial⟩
def RX12_operand_40    (n sl : Nat) (SH : Nat → Nat × Nat) (FI : Nat → Nat → Int32) (FL : Nat → Nat → Int64) (FR : Nat → Nat → Option Nat) : Int32 → hS → Prop := (P_and (p_in (FI 121 68) (SH 150).2) (P_if ((fX12_isWord ((7 : Int32)) SH FI FL FR).toInt = 0) (P_and (p_in (FI 121 68) (SH 149).2) (P_if ((FI 149 (FI 121 68).toInt.toNat).toInt = ((4 : Int32)).toInt) (P_if (((FL 150 (FI 121 68).toInt.toNat).toInt32).toInt = ((8 : Int32)).toInt) (P_bi (RX12_opens  n sl SH FI FL FR) (fun v4 n4 sl4 SH4 FI4 FL4 FR4 => (P_bi (RX12_later ((6 : Int32)) ((9 : Int32)) n4 sl4 SH4 FI4 FL4 FR4) (fun v5 n5 sl5 SH5 FI5 FL5 FR5 => (P_ret ((0 : Int32)) (n5, sl5, SH5, FI5, FL5, FR5)))))) (P_bi (RX12_opens  n sl SH FI FL FR) (fun v6 n6 sl6 SH6 FI6 FL6 FR6 => (P_bi (RX12_later (((256 : Int32)) + ((FL 150 (FI 121 68).toInt.toNat).toInt32)) ((9 : Int32)) n6 sl6 SH6 FI6 FL6 FR6) (fun v7 n7 sl7 SH7 FI7 FL7 FR7 => (P_ret ((0 : Int32)) (n7, sl7, SH7, FI7, FL7, FR7))))))) (P_if (((FL 150 (FI 121 68).toInt.toNat).toInt32).toInt = ((45 : Int32)).toInt) (P_bi (RX12_opens  n sl SH FI FL FR) (fun v9 n9 sl9 SH9 FI9 FL9 FR9 => (P_bi (RX12_later ((31 : Int32)) ((9 : Int32)) n9 sl9 SH9 FI9 FL9 FR9) (fun v10 n10 sl10 SH10 FI10 FL10 FR10 => (P_ret ((0 : Int32)) (n10, sl10, SH10, FI10, FL10, FR10)))))) (P_bi (RX12_opens  n sl SH FI FL FR) (fun v11 n11 sl11 SH11 FI11 FL11 FR11 => (P_bi (RX12_later ((32 : Int32)) ((9 : Int32)) n11 sl11 SH11 FI11 FL11 FR11) (fun v12 n12 sl12 SH12 FI12 FL12 FR12 => (P_ret ((0 : Int32)) (n12, sl12, SH12, FI12, FL12, FR12))))))))) (P_bi (RX12_opens  n sl SH FI FL FR) (fun v13 n13 sl13 SH13 FI13 FL13 FR13 => (P_bi (RX12_later ((155 : Int32)) ((9 : Int32)) n13 sl13 SH13 FI13 FL13 FR13) (fun v14 n14 sl14 SH14 FI14 FL14 FR14 => (P_ret ((0 : Int32)) (n14, sl14, SH14, FI14, FL14, FR14))))))))
set_option maxHeartbeats 4000000 in
set_option maxRecDepth 100000 in
theorem rX12_operand_40 {sk : xK} {base N d : Nat}  (hkb : x_kb sk base)    (n sl : Nat) (SH : Nat → Nat × Nat) (FI : Nat → Nat → Int32) (FL : Nat → Nat → Int64) (FR : Nat → Nat → Option Nat) (hok : pk n SH FR)   : pw pj_I sk base N d none 239 40 [(0, .ref (base + 121))] [] (n, sl, SH, FI, FL, FR) (RX12_operand_40    n sl SH FI FL FR) := by
  unfold RX12_operand_40
  refine pw_aloadn (aX12_operand 19 rfl) rfl ?_
  refine pw_getr (v := .ref (base + 150)) (aX12_operand 20 rfl) uf_RX12_108 un_RX12_108 (congrArg (fun r => va_rf (h_rf base r)) (q121_63 (hok).2.1)) ?_
  refine pw_aloadn (aX12_operand 21 rfl) rfl ?_
  refine pw_getr (v := .int (FI 121 68)) (aX12_operand 22 rfl) uf_RX12_478 un_RX12_478 rfl ?_
  refine pw_laldr (c := 150) (ix := (FI 121 68).toInt.toNat) (aX12_operand 23 rfl) rfl (fun _ => ?_)
  refine pw_l2i (aX12_operand 24 rfl) ?_
  refine pw_istoren (L2 := [(1, .int ((FL 150 (FI 121 68).toInt.toNat).toInt32)), (0, .ref (base + 121))]) (aX12_operand 25 rfl) rfl ?_
  refine pw_aloadn (aX12_operand 26 rfl) rfl ?_
  refine pw_bipush (v := (7 : Int32)) (aX12_operand 27 rfl) rfl ?_
  refine pw_cf (pw_callV (Bs := [.int ((7 : Int32))]) (rest := []) (aX12_operand 28 rfl) um_RX12_535 ujX12_isWord wc_RX12_535.2.2.2.2 (by decide) (by decide) rfl rfl (fun d => rX12_isWord hkb ((7 : Int32)) n sl SH FI FL FR hok) (fun v0 n0 sl0 SH0 FI0 FL0 FR0 _ hC => ?_))
  obtain ⟨rfl, hC⟩ := hC; cases hC
  show pw _ _ _ _ _ _ _ 57 _ [.int (fX12_isWord ((7 : Int32)) SH FI FL FR)] _ _
  refine pw_ifeq (tgt := 66) (aX12_operand 29 rfl) (by decide) (fun b1 => ?_) (fun b1 => ?_)
  · skip
    refine pw_aloadn (aX12_operand 32 rfl) rfl ?_
    refine pw_getr (v := .ref (base + 149)) (aX12_operand 33 rfl) uf_RX12_105 un_RX12_105 (congrArg (fun r => va_rf (h_rf base r)) (q121_62 (hok).2.1)) ?_
    refine pw_aloadn (aX12_operand 34 rfl) rfl ?_
    refine pw_getr (v := .int (FI 121 68)) (aX12_operand 35 rfl) uf_RX12_478 un_RX12_478 rfl ?_
    refine pw_ialdr (c := 149) (ix := (FI 121 68).toInt.toNat) (aX12_operand 36 rfl) rfl (fun _ => ?_)
    refine pw_iconst (v := (4 : Int32)) (aX12_operand 37 rfl) rfl ?_
    refine pw_icne (tgt := 98) (aX12_operand 38 rfl) (by decide) (fun b2 => ?_) (fun b2 => ?_)
    · skip
      refine pw_iloadn (aX12_operand 39 rfl) rfl ?_
      refine pw_bipush (v := (8 : Int32)) (aX12_operand 40 rfl) rfl ?_
      refine pw_icne (tgt := 90) (aX12_operand 41 rfl) (by decide) (fun b3 => ?_) (fun b3 => ?_)
      · skip
        refine pw_bipush (v := (6 : Int32)) (aX12_operand 42 rfl) rfl ?_
        refine pw_goto (tgt := 111) (aX12_operand 43 rfl) (by decide) ?_
        refine pw_istoren (L2 := [(2, .int ((6 : Int32))), (1, .int ((FL 150 (FI 121 68).toInt.toNat).toInt32)), (0, .ref (base + 121))]) (aX12_operand 54 rfl) rfl ?_
        refine pw_aloadn (aX12_operand 55 rfl) rfl ?_
        refine pw_callV (Bs := []) (rest := []) (aX12_operand 56 rfl) um_RX12_538 ujX12_opens wc_RX12_538.2.2.2.2 (by decide) (by decide) rfl rfl (fun d => rX12_opens hkb  n sl SH FI FL FR hok) (fun v4 n4 sl4 SH4 FI4 FL4 FR4 hok4 _ => ?_)
        show pw _ _ _ _ _ _ _ 116 _ [] _ _
        refine pw_aloadn (aX12_operand 57 rfl) rfl ?_
        refine pw_iloadn (aX12_operand 58 rfl) rfl ?_
        refine pw_bipush (v := (9 : Int32)) (aX12_operand 59 rfl) rfl ?_
        refine pw_callV (Bs := [.int ((6 : Int32)), .int ((9 : Int32))]) (rest := []) (aX12_operand 60 rfl) um_RX12_580 ujX12_later wc_RX12_580.2.2.2.2 (by decide) (by decide) rfl rfl (fun d => rX12_later hkb ((6 : Int32)) ((9 : Int32)) n4 sl4 SH4 FI4 FL4 FR4 hok4) (fun v5 n5 sl5 SH5 FI5 FL5 FR5 hok5 _ => ?_)
        show pw _ _ _ _ _ _ _ 123 _ [] _ _
        refine pw_iconst (v := (0 : Int32)) (aX12_operand 61 rfl) rfl ?_
        exact pw_iret (aX12_operand 62 rfl) hok5
      · skip
        refine pw_sipush (v := (256 : Int32)) (aX12_operand 44 rfl) rfl ?_
        refine pw_iloadn (aX12_operand 45 rfl) rfl ?_
        refine pw_iadd (aX12_operand 46 rfl) ?_
        refine pw_goto (tgt := 111) (aX12_operand 47 rfl) (by decide) ?_
        refine pw_istoren (L2 := [(2, .int (((256 : Int32)) + ((FL 150 (FI 121 68).toInt.toNat).toInt32))), (1, .int ((FL 150 (FI 121 68).toInt.toNat).toInt32)), (0, .ref (base + 121))]) (aX12_operand 54 rfl) rfl ?_
        refine pw_aloadn (aX12_operand 55 rfl) rfl ?_
        refine pw_callV (Bs := []) (rest := []) (aX12_operand 56 rfl) um_RX12_538 ujX12_opens wc_RX12_538.2.2.2.2 (by decide) (by decide) rfl rfl (fun d => rX12_opens hkb  n sl SH FI FL FR hok) (fun v6 n6 sl6 SH6 FI6 FL6 FR6 hok6 _ => ?_)
        show pw _ _ _ _ _ _ _ 116 _ [] _ _
        refine pw_aloadn (aX12_operand 57 rfl) rfl ?_
        refine pw_iloadn (aX12_operand 58 rfl) rfl ?_
        refine pw_bipush (v := (9 : Int32)) (aX12_operand 59 rfl) rfl ?_
        refine pw_callV (Bs := [.int (((256 : Int32)) + ((FL 150 (FI 121 68).toInt.toNat).toInt32)), .int ((9 : Int32))]) (rest := []) (aX12_operand 60 rfl) um_RX12_580 ujX12_later wc_RX12_580.2.2.2.2 (by decide) (by decide) rfl rfl (fun d => rX12_later hkb (((256 : Int32)) + ((FL 150 (FI 121 68).toInt.toNat).toInt32)) ((9 : Int32)) n6 sl6 SH6 FI6 FL6 FR6 hok6) (fun v7 n7 sl7 SH7 FI7 FL7 FR7 hok7 _ => ?_)
        show pw _ _ _ _ _ _ _ 123 _ [] _ _
        refine pw_iconst (v := (0 : Int32)) (aX12_operand 61 rfl) rfl ?_
        exact pw_iret (aX12_operand 62 rfl) hok7
    · skip
      refine pw_iloadn (aX12_operand 48 rfl) rfl ?_
      refine pw_bipush (v := (45 : Int32)) (aX12_operand 49 rfl) rfl ?_
      refine pw_icne (tgt := 109) (aX12_operand 50 rfl) (by decide) (fun b8 => ?_) (fun b8 => ?_)
      · skip
        refine pw_bipush (v := (31 : Int32)) (aX12_operand 51 rfl) rfl ?_
        refine pw_goto (tgt := 111) (aX12_operand 52 rfl) (by decide) ?_
        refine pw_istoren (L2 := [(2, .int ((31 : Int32))), (1, .int ((FL 150 (FI 121 68).toInt.toNat).toInt32)), (0, .ref (base + 121))]) (aX12_operand 54 rfl) rfl ?_
        refine pw_aloadn (aX12_operand 55 rfl) rfl ?_
        refine pw_callV (Bs := []) (rest := []) (aX12_operand 56 rfl) um_RX12_538 ujX12_opens wc_RX12_538.2.2.2.2 (by decide) (by decide) rfl rfl (fun d => rX12_opens hkb  n sl SH FI FL FR hok) (fun v9 n9 sl9 SH9 FI9 FL9 FR9 hok9 _ => ?_)
        show pw _ _ _ _ _ _ _ 116 _ [] _ _
        refine pw_aloadn (aX12_operand 57 rfl) rfl ?_
        refine pw_iloadn (aX12_operand 58 rfl) rfl ?_
        refine pw_bipush (v := (9 : Int32)) (aX12_operand 59 rfl) rfl ?_
        refine pw_callV (Bs := [.int ((31 : Int32)), .int ((9 : Int32))]) (rest := []) (aX12_operand 60 rfl) um_RX12_580 ujX12_later wc_RX12_580.2.2.2.2 (by decide) (by decide) rfl rfl (fun d => rX12_later hkb ((31 : Int32)) ((9 : Int32)) n9 sl9 SH9 FI9 FL9 FR9 hok9) (fun v10 n10 sl10 SH10 FI10 FL10 FR10 hok10 _ => ?_)
        show pw _ _ _ _ _ _ _ 123 _ [] _ _
        refine pw_iconst (v := (0 : Int32)) (aX12_operand 61 rfl) rfl ?_
        exact pw_iret (aX12_operand 62 rfl) hok10
      · skip
        refine pw_bipush (v := (32 : Int32)) (aX12_operand 53 rfl) rfl ?_
        refine pw_istoren (L2 := [(2, .int ((32 : Int32))), (1, .int ((FL 150 (FI 121 68).toInt.toNat).toInt32)), (0, .ref (base + 121))]) (aX12_operand 54 rfl) rfl ?_
        refine pw_aloadn (aX12_operand 55 rfl) rfl ?_
        refine pw_callV (Bs := []) (rest := []) (aX12_operand 56 rfl) um_RX12_538 ujX12_opens wc_RX12_538.2.2.2.2 (by decide) (by decide) rfl rfl (fun d => rX12_opens hkb  n sl SH FI FL FR hok) (fun v11 n11 sl11 SH11 FI11 FL11 FR11 hok11 _ => ?_)
        show pw _ _ _ _ _ _ _ 116 _ [] _ _
        refine pw_aloadn (aX12_operand 57 rfl) rfl ?_
        refine pw_iloadn (aX12_operand 58 rfl) rfl ?_
        refine pw_bipush (v := (9 : Int32)) (aX12_operand 59 rfl) rfl ?_
        refine pw_callV (Bs := [.int ((32 : Int32)), .int ((9 : Int32))]) (rest := []) (aX12_operand 60 rfl) um_RX12_580 ujX12_later wc_RX12_580.2.2.2.2 (by decide) (by decide) rfl rfl (fun d => rX12_later hkb ((32 : Int32)) ((9 : Int32)) n11 sl11 SH11 FI11 FL11 FR11 hok11) (fun v12 n12 sl12 SH12 FI12 FL12 FR12 hok12 _ => ?_)
        show pw _ _ _ _ _ _ _ 123 _ [] _ _
        refine pw_iconst (v := (0 : Int32)) (aX12_operand 61 rfl) rfl ?_
        exact pw_iret (aX12_operand 62 rfl) hok12
  · skip
    refine pw_sipush (v := (155 : Int32)) (aX12_operand 30 rfl) rfl ?_
    refine pw_goto (tgt := 111) (aX12_operand 31 rfl) (by decide) ?_
    refine pw_istoren (L2 := [(2, .int ((155 : Int32))), (1, .int ((FL 150 (FI 121 68).toInt.toNat).toInt32)), (0, .ref (base + 121))]) (aX12_operand 54 rfl) rfl ?_
    refine pw_aloadn (aX12_operand 55 rfl) rfl ?_
    refine pw_callV (Bs := []) (rest := []) (aX12_operand 56 rfl) um_RX12_538 ujX12_opens wc_RX12_538.2.2.2.2 (by decide) (by decide) rfl rfl (fun d => rX12_opens hkb  n sl SH FI FL FR hok) (fun v13 n13 sl13 SH13 FI13 FL13 FR13 hok13 _ => ?_)
    show pw _ _ _ _ _ _ _ 116 _ [] _ _
    refine pw_aloadn (aX12_operand 57 rfl) rfl ?_
    refine pw_iloadn (aX12_operand 58 rfl) rfl ?_
    refine pw_bipush (v := (9 : Int32)) (aX12_operand 59 rfl) rfl ?_
    refine pw_callV (Bs := [.int ((155 : Int32)), .int ((9 : Int32))]) (rest := []) (aX12_operand 60 rfl) um_RX12_580 ujX12_later wc_RX12_580.2.2.2.2 (by decide) (by decide) rfl rfl (fun d => rX12_later hkb ((155 : Int32)) ((9 : Int32)) n13 sl13 SH13 FI13 FL13 FR13 hok13) (fun v14 n14 sl14 SH14 FI14 FL14 FR14 hok14 _ => ?_)
    show pw _ _ _ _ _ _ _ 123 _ [] _ _
    refine pw_iconst (v := (0 : Int32)) (aX12_operand 61 rfl) rfl ?_
    exact pw_iret (aX12_operand 62 rfl) hok14
def RX12_operand_262    (n sl : Nat) (SH : Nat → Nat × Nat) (FI : Nat → Nat → Int32) (FL : Nat → Nat → Int64) (FR : Nat → Nat → Option Nat) : Int32 → hS → Prop := (P_if ((fX12_isWord ((5 : Int32)) SH FI FL FR).toInt = 0) (P_bi (RX12_emit ((151 : Int32)) n sl SH FI FL FR) (fun v2 n2 sl2 SH2 FI2 FL2 FR2 => (P_bi (RX12_finished  n2 sl2 SH2 (h_up FI2 121 68 ((FI2 121 68) + ((1 : Int32)))) FL2 FR2) (fun v4 n4 sl4 SH4 FI4 FL4 FR4 => (P_ret ((1 : Int32)) (n4, sl4, SH4, FI4, FL4, FR4)))))) (P_bi (RX12_emit ((156 : Int32)) n sl SH FI FL FR) (fun v5 n5 sl5 SH5 FI5 FL5 FR5 => (P_bi (RX12_finished  n5 sl5 SH5 (h_up FI5 121 68 ((FI5 121 68) + ((1 : Int32)))) FL5 FR5) (fun v7 n7 sl7 SH7 FI7 FL7 FR7 => (P_ret ((1 : Int32)) (n7, sl7, SH7, FI7, FL7, FR7)))))))
set_option maxHeartbeats 4000000 in
set_option maxRecDepth 100000 in
theorem rX12_operand_262 {sk : xK} {base N d : Nat}  (hkb : x_kb sk base)    (n sl : Nat) (SH : Nat → Nat × Nat) (FI : Nat → Nat → Int32) (FL : Nat → Nat → Int64) (FR : Nat → Nat → Option Nat) (hok : pk n SH FR)   : pw pj_I sk base N d none 239 262 [(0, .ref (base + 121))] [] (n, sl, SH, FI, FL, FR) (RX12_operand_262    n sl SH FI FL FR) := by
  unfold RX12_operand_262
  refine pw_aloadn (aX12_operand 135 rfl) rfl ?_
  refine pw_aloadn (aX12_operand 136 rfl) rfl ?_
  refine pw_iconst (v := (5 : Int32)) (aX12_operand 137 rfl) rfl ?_
  refine pw_cf (pw_callV (Bs := [.int ((5 : Int32))]) (rest := [.ref (base + 121)]) (aX12_operand 138 rfl) um_RX12_535 ujX12_isWord wc_RX12_535.2.2.2.2 (by decide) (by decide) rfl rfl (fun d => rX12_isWord hkb ((5 : Int32)) n sl SH FI FL FR hok) (fun v0 n0 sl0 SH0 FI0 FL0 FR0 _ hC => ?_))
  obtain ⟨rfl, hC⟩ := hC; cases hC
  show pw _ _ _ _ _ _ _ 268 _ [.int (fX12_isWord ((5 : Int32)) SH FI FL FR), .ref (base + 121)] _ _
  refine pw_ifeq (tgt := 277) (aX12_operand 139 rfl) (by decide) (fun b1 => ?_) (fun b1 => ?_)
  · skip
    refine pw_sipush (v := (151 : Int32)) (aX12_operand 142 rfl) rfl ?_
    refine pw_callV (Bs := [.int ((151 : Int32))]) (rest := []) (aX12_operand 143 rfl) um_RX12_496 ujX12_emit wc_RX12_496.2.2.2.2 (by decide) (by decide) rfl rfl (fun d => rX12_emit hkb ((151 : Int32)) n sl SH FI FL FR hok) (fun v2 n2 sl2 SH2 FI2 FL2 FR2 hok2 _ => ?_)
    show pw _ _ _ _ _ _ _ 283 _ [] _ _
    refine pw_aloadn (aX12_operand 144 rfl) rfl ?_
    refine pw_aloadn (aX12_operand 145 rfl) rfl ?_
    refine pw_getr (v := .int (FI2 121 68)) (aX12_operand 146 rfl) uf_RX12_478 un_RX12_478 rfl ?_
    refine pw_iconst (v := (1 : Int32)) (aX12_operand 147 rfl) rfl ?_
    refine pw_iadd (aX12_operand 148 rfl) ?_
    refine pw_putri (aX12_operand 149 rfl) uf_RX12_478 (fun _ _ _ => rfl) (fun t4 => ?_)
    refine pw_goto (tgt := 303) (aX12_operand 150 rfl) (by decide) ?_
    refine pw_aloadn (aX12_operand 156 rfl) rfl ?_
    refine pw_callV (Bs := []) (rest := []) (aX12_operand 157 rfl) um_RX12_596 ujX12_finished wc_RX12_596.2.2.2.2 (by decide) (by decide) rfl rfl (fun d => rX12_finished hkb  n2 sl2 SH2 (h_up FI2 121 68 ((FI2 121 68) + ((1 : Int32)))) FL2 FR2 hok2) (fun v4 n4 sl4 SH4 FI4 FL4 FR4 hok4 _ => ?_)
    show pw _ _ _ _ _ _ _ 307 _ [] _ _
    refine pw_iconst (v := (1 : Int32)) (aX12_operand 158 rfl) rfl ?_
    exact pw_iret (aX12_operand 159 rfl) hok4
  · skip
    refine pw_sipush (v := (156 : Int32)) (aX12_operand 140 rfl) rfl ?_
    refine pw_goto (tgt := 280) (aX12_operand 141 rfl) (by decide) ?_
    refine pw_callV (Bs := [.int ((156 : Int32))]) (rest := []) (aX12_operand 143 rfl) um_RX12_496 ujX12_emit wc_RX12_496.2.2.2.2 (by decide) (by decide) rfl rfl (fun d => rX12_emit hkb ((156 : Int32)) n sl SH FI FL FR hok) (fun v5 n5 sl5 SH5 FI5 FL5 FR5 hok5 _ => ?_)
    show pw _ _ _ _ _ _ _ 283 _ [] _ _
    refine pw_aloadn (aX12_operand 144 rfl) rfl ?_
    refine pw_aloadn (aX12_operand 145 rfl) rfl ?_
    refine pw_getr (v := .int (FI5 121 68)) (aX12_operand 146 rfl) uf_RX12_478 un_RX12_478 rfl ?_
    refine pw_iconst (v := (1 : Int32)) (aX12_operand 147 rfl) rfl ?_
    refine pw_iadd (aX12_operand 148 rfl) ?_
    refine pw_putri (aX12_operand 149 rfl) uf_RX12_478 (fun _ _ _ => rfl) (fun t7 => ?_)
    refine pw_goto (tgt := 303) (aX12_operand 150 rfl) (by decide) ?_
    refine pw_aloadn (aX12_operand 156 rfl) rfl ?_
    refine pw_callV (Bs := []) (rest := []) (aX12_operand 157 rfl) um_RX12_596 ujX12_finished wc_RX12_596.2.2.2.2 (by decide) (by decide) rfl rfl (fun d => rX12_finished hkb  n5 sl5 SH5 (h_up FI5 121 68 ((FI5 121 68) + ((1 : Int32)))) FL5 FR5 hok5) (fun v7 n7 sl7 SH7 FI7 FL7 FR7 hok7 _ => ?_)
    show pw _ _ _ _ _ _ _ 307 _ [] _ _
    refine pw_iconst (v := (1 : Int32)) (aX12_operand 158 rfl) rfl ?_
    exact pw_iret (aX12_operand 159 rfl) hok7
def RX12_operand  (n sl : Nat) (SH : Nat → Nat × Nat) (FI : Nat → Nat → Int32) (FL : Nat → Nat → Int64) (FR : Nat → Nat → Option Nat) : Int32 → hS → Prop := (P_if ((fX12_isSign ((45 : Int32)) SH FI FL FR).toInt = 0) (P_if ((fX12_isSign ((126 : Int32)) SH FI FL FR).toInt = 0) (P_and (p_in (FI 121 68) (SH 149).2) (P_if ((FI 149 (FI 121 68).toInt.toNat).toInt = ((4 : Int32)).toInt) (RX12_operand_40    n sl SH FI FL FR) (P_if ((fX12_isWord ((7 : Int32)) SH FI FL FR).toInt = 0) (P_if ((fX12_isSign ((40 : Int32)) SH FI FL FR).toInt = 0) (P_and (p_in (FI 121 68) (SH 149).2) (P_if ((FI 149 (FI 121 68).toInt.toNat).toInt = ((3 : Int32)).toInt) (P_and (p_in (FI 121 68) (SH 150).2) (P_bi (RX12_push (FL 150 (FI 121 68).toInt.toNat) n sl SH FI FL FR) (fun v10 n10 sl10 SH10 FI10 FL10 FR10 => (P_bi (RX12_finished  n10 sl10 SH10 (h_up FI10 121 68 ((FI10 121 68) + ((1 : Int32)))) FL10 FR10) (fun v12 n12 sl12 SH12 FI12 FL12 FR12 => (P_ret ((1 : Int32)) (n12, sl12, SH12, FI12, FL12, FR12))))))) (P_if ((fX12_isSign ((37 : Int32)) SH FI FL FR).toInt = 0) (P_if ((fX12_isWord ((4 : Int32)) SH FI FL FR).toInt = 0) (P_if ((fX12_isWord ((5 : Int32)) SH FI FL FR).toInt = 0) (P_if ((fX12_isWord ((6 : Int32)) SH FI FL FR).toInt = 0) (P_bi (RX12_fail ((1 : Int32)) n sl SH FI FL FR) (fun v21 n21 sl21 SH21 FI21 FL21 FR21 => (P_ret ((0 : Int32)) (n21, sl21, SH21, FI21, FL21, FR21)))) (RX12_operand_262    n sl SH FI FL FR)) (RX12_operand_262    n sl SH FI FL FR)) (P_bi (RX12_emit ((145 : Int32)) n sl SH FI FL FR) (fun v22 n22 sl22 SH22 FI22 FL22 FR22 => (P_bi (RX12_combined ((FI 121 68) + ((1 : Int32))) n22 sl22 SH22 (h_up FI22 121 68 ((FI22 121 68) + ((1 : Int32)))) FL22 FR22) (fun v24 n24 sl24 SH24 FI24 FL24 FR24 => (P_bi (RX12_signed (v24) n24 sl24 SH24 FI24 FL24 FR24) (fun v25 n25 sl25 SH25 FI25 FL25 FR25 => (P_bi (RX12_finished  n25 sl25 SH25 FI25 FL25 FR25) (fun v26 n26 sl26 SH26 FI26 FL26 FR26 => (P_ret ((1 : Int32)) (n26, sl26, SH26, FI26, FL26, FR26))))))))))) (P_bi (RX12_registered  n sl SH FI FL FR) (fun v27 n27 sl27 SH27 FI27 FL27 FR27 => (P_bi (RX12_finished  n27 sl27 SH27 FI27 FL27 FR27) (fun v28 n28 sl28 SH28 FI28 FL28 FR28 => (P_ret ((1 : Int32)) (n28, sl28, SH28, FI28, FL28, FR28))))))))) (P_bi (RX12_opens  n sl SH FI FL FR) (fun v29 n29 sl29 SH29 FI29 FL29 FR29 => (P_bi (RX12_later ((0 : Int32)) ((-1 : Int32)) n29 sl29 SH29 FI29 FL29 FR29) (fun v30 n30 sl30 SH30 FI30 FL30 FR30 => (P_ret ((0 : Int32)) (n30, sl30, SH30, FI30, FL30, FR30))))))) (RX12_operand_40    n sl SH FI FL FR)))) (RX12_operand_40    n sl SH FI FL FR)) (RX12_operand_40    n sl SH FI FL FR))
set_option maxHeartbeats 4000000 in
set_option maxRecDepth 100000 in
theorem rX12_operand {sk : xK} {base N d : Nat} (hkb : x_kb sk base)  (n sl : Nat) (SH : Nat → Nat × Nat) (FI : Nat → Nat → Int32) (FL : Nat → Nat → Int64) (FR : Nat → Nat → Option Nat) (hok : pk n SH FR)  : pw pj_I sk base N d none 239 0 [(0, .ref (base + 121))] [] (n, sl, SH, FI, FL, FR) (RX12_operand  n sl SH FI FL FR) := by
  unfold RX12_operand
  refine pw_aloadn (aX12_operand 0 rfl) rfl ?_
  refine pw_bipush (v := (45 : Int32)) (aX12_operand 1 rfl) rfl ?_
  refine pw_cf (pw_callV (Bs := [.int ((45 : Int32))]) (rest := []) (aX12_operand 2 rfl) um_RX12_484 ujX12_isSign wc_RX12_484.2.2.2.2 (by decide) (by decide) rfl rfl (fun d => rX12_isSign hkb ((45 : Int32)) n sl SH FI FL FR hok) (fun v0 n0 sl0 SH0 FI0 FL0 FR0 _ hC => ?_))
  obtain ⟨rfl, hC⟩ := hC; cases hC
  show pw _ _ _ _ _ _ _ 6 _ [.int (fX12_isSign ((45 : Int32)) SH FI FL FR)] _ _
  refine pw_ifne (tgt := 40) (aX12_operand 3 rfl) (by decide) (fun b1 => ?_) (fun b1 => ?_)
  · skip
    refine pw_aloadn (aX12_operand 4 rfl) rfl ?_
    refine pw_bipush (v := (126 : Int32)) (aX12_operand 5 rfl) rfl ?_
    refine pw_cf (pw_callV (Bs := [.int ((126 : Int32))]) (rest := []) (aX12_operand 6 rfl) um_RX12_484 ujX12_isSign wc_RX12_484.2.2.2.2 (by decide) (by decide) rfl rfl (fun d => rX12_isSign hkb ((126 : Int32)) n sl SH FI FL FR hok) (fun v2 n2 sl2 SH2 FI2 FL2 FR2 _ hC => ?_))
    obtain ⟨rfl, hC⟩ := hC; cases hC
    show pw _ _ _ _ _ _ _ 15 _ [.int (fX12_isSign ((126 : Int32)) SH FI FL FR)] _ _
    refine pw_ifne (tgt := 40) (aX12_operand 7 rfl) (by decide) (fun b3 => ?_) (fun b3 => ?_)
    · skip
      refine pw_aloadn (aX12_operand 8 rfl) rfl ?_
      refine pw_getr (v := .ref (base + 149)) (aX12_operand 9 rfl) uf_RX12_105 un_RX12_105 (congrArg (fun r => va_rf (h_rf base r)) (q121_62 (hok).2.1)) ?_
      refine pw_aloadn (aX12_operand 10 rfl) rfl ?_
      refine pw_getr (v := .int (FI 121 68)) (aX12_operand 11 rfl) uf_RX12_478 un_RX12_478 rfl ?_
      refine pw_ialdr (c := 149) (ix := (FI 121 68).toInt.toNat) (aX12_operand 12 rfl) rfl (fun _ => ?_)
      refine pw_iconst (v := (4 : Int32)) (aX12_operand 13 rfl) rfl ?_
      refine pw_iceq (tgt := 40) (aX12_operand 14 rfl) (by decide) (fun b4 => ?_) (fun b4 => ?_)
      · skip
        exact pw_Li (L2 := [(0, .ref (base + 121))]) [0] (rX12_operand_40 hkb   n sl SH FI FL FR hok  ) ⟨rfl, trivial⟩
      · skip
        refine pw_aloadn (aX12_operand 15 rfl) rfl ?_
        refine pw_bipush (v := (7 : Int32)) (aX12_operand 16 rfl) rfl ?_
        refine pw_cf (pw_callV (Bs := [.int ((7 : Int32))]) (rest := []) (aX12_operand 17 rfl) um_RX12_535 ujX12_isWord wc_RX12_535.2.2.2.2 (by decide) (by decide) rfl rfl (fun d => rX12_isWord hkb ((7 : Int32)) n sl SH FI FL FR hok) (fun v5 n5 sl5 SH5 FI5 FL5 FR5 _ hC => ?_))
        obtain ⟨rfl, hC⟩ := hC; cases hC
        show pw _ _ _ _ _ _ _ 37 _ [.int (fX12_isWord ((7 : Int32)) SH FI FL FR)] _ _
        refine pw_ifeq (tgt := 125) (aX12_operand 18 rfl) (by decide) (fun b6 => ?_) (fun b6 => ?_)
        · skip
          refine pw_aloadn (aX12_operand 63 rfl) rfl ?_
          refine pw_bipush (v := (40 : Int32)) (aX12_operand 64 rfl) rfl ?_
          refine pw_cf (pw_callV (Bs := [.int ((40 : Int32))]) (rest := []) (aX12_operand 65 rfl) um_RX12_484 ujX12_isSign wc_RX12_484.2.2.2.2 (by decide) (by decide) rfl rfl (fun d => rX12_isSign hkb ((40 : Int32)) n sl SH FI FL FR hok) (fun v7 n7 sl7 SH7 FI7 FL7 FR7 _ hC => ?_))
          obtain ⟨rfl, hC⟩ := hC; cases hC
          show pw _ _ _ _ _ _ _ 131 _ [.int (fX12_isSign ((40 : Int32)) SH FI FL FR)] _ _
          refine pw_ifeq (tgt := 146) (aX12_operand 66 rfl) (by decide) (fun b8 => ?_) (fun b8 => ?_)
          · skip
            refine pw_aloadn (aX12_operand 75 rfl) rfl ?_
            refine pw_getr (v := .ref (base + 149)) (aX12_operand 76 rfl) uf_RX12_105 un_RX12_105 (congrArg (fun r => va_rf (h_rf base r)) (q121_62 (hok).2.1)) ?_
            refine pw_aloadn (aX12_operand 77 rfl) rfl ?_
            refine pw_getr (v := .int (FI 121 68)) (aX12_operand 78 rfl) uf_RX12_478 un_RX12_478 rfl ?_
            refine pw_ialdr (c := 149) (ix := (FI 121 68).toInt.toNat) (aX12_operand 79 rfl) rfl (fun _ => ?_)
            refine pw_iconst (v := (3 : Int32)) (aX12_operand 80 rfl) rfl ?_
            refine pw_icne (tgt := 185) (aX12_operand 81 rfl) (by decide) (fun b9 => ?_) (fun b9 => ?_)
            · skip
              refine pw_aloadn (aX12_operand 82 rfl) rfl ?_
              refine pw_aloadn (aX12_operand 83 rfl) rfl ?_
              refine pw_getr (v := .ref (base + 150)) (aX12_operand 84 rfl) uf_RX12_108 un_RX12_108 (congrArg (fun r => va_rf (h_rf base r)) (q121_63 (hok).2.1)) ?_
              refine pw_aloadn (aX12_operand 85 rfl) rfl ?_
              refine pw_getr (v := .int (FI 121 68)) (aX12_operand 86 rfl) uf_RX12_478 un_RX12_478 rfl ?_
              refine pw_laldr (c := 150) (ix := (FI 121 68).toInt.toNat) (aX12_operand 87 rfl) rfl (fun _ => ?_)
              refine pw_callV (Bs := [.long (FL 150 (FI 121 68).toInt.toNat)]) (rest := []) (aX12_operand 88 rfl) um_RX12_583 ujX12_push wc_RX12_583.2.2.2.2 (by decide) (by decide) rfl rfl (fun d => rX12_push hkb (FL 150 (FI 121 68).toInt.toNat) n sl SH FI FL FR hok) (fun v10 n10 sl10 SH10 FI10 FL10 FR10 hok10 _ => ?_)
              show pw _ _ _ _ _ _ _ 172 _ [] _ _
              refine pw_aloadn (aX12_operand 89 rfl) rfl ?_
              refine pw_aloadn (aX12_operand 90 rfl) rfl ?_
              refine pw_getr (v := .int (FI10 121 68)) (aX12_operand 91 rfl) uf_RX12_478 un_RX12_478 rfl ?_
              refine pw_iconst (v := (1 : Int32)) (aX12_operand 92 rfl) rfl ?_
              refine pw_iadd (aX12_operand 93 rfl) ?_
              refine pw_putri (aX12_operand 94 rfl) uf_RX12_478 (fun _ _ _ => rfl) (fun t12 => ?_)
              refine pw_goto (tgt := 303) (aX12_operand 95 rfl) (by decide) ?_
              refine pw_aloadn (aX12_operand 156 rfl) rfl ?_
              refine pw_callV (Bs := []) (rest := []) (aX12_operand 157 rfl) um_RX12_596 ujX12_finished wc_RX12_596.2.2.2.2 (by decide) (by decide) rfl rfl (fun d => rX12_finished hkb  n10 sl10 SH10 (h_up FI10 121 68 ((FI10 121 68) + ((1 : Int32)))) FL10 FR10 hok10) (fun v12 n12 sl12 SH12 FI12 FL12 FR12 hok12 _ => ?_)
              show pw _ _ _ _ _ _ _ 307 _ [] _ _
              refine pw_iconst (v := (1 : Int32)) (aX12_operand 158 rfl) rfl ?_
              exact pw_iret (aX12_operand 159 rfl) hok12
            · skip
              refine pw_aloadn (aX12_operand 96 rfl) rfl ?_
              refine pw_bipush (v := (37 : Int32)) (aX12_operand 97 rfl) rfl ?_
              refine pw_cf (pw_callV (Bs := [.int ((37 : Int32))]) (rest := []) (aX12_operand 98 rfl) um_RX12_484 ujX12_isSign wc_RX12_484.2.2.2.2 (by decide) (by decide) rfl rfl (fun d => rX12_isSign hkb ((37 : Int32)) n sl SH FI FL FR hok) (fun v13 n13 sl13 SH13 FI13 FL13 FR13 _ hC => ?_))
              obtain ⟨rfl, hC⟩ := hC; cases hC
              show pw _ _ _ _ _ _ _ 191 _ [.int (fX12_isSign ((37 : Int32)) SH FI FL FR)] _ _
              refine pw_ifeq (tgt := 201) (aX12_operand 99 rfl) (by decide) (fun b14 => ?_) (fun b14 => ?_)
              · skip
                refine pw_aloadn (aX12_operand 103 rfl) rfl ?_
                refine pw_iconst (v := (4 : Int32)) (aX12_operand 104 rfl) rfl ?_
                refine pw_cf (pw_callV (Bs := [.int ((4 : Int32))]) (rest := []) (aX12_operand 105 rfl) um_RX12_535 ujX12_isWord wc_RX12_535.2.2.2.2 (by decide) (by decide) rfl rfl (fun d => rX12_isWord hkb ((4 : Int32)) n sl SH FI FL FR hok) (fun v15 n15 sl15 SH15 FI15 FL15 FR15 _ hC => ?_))
                obtain ⟨rfl, hC⟩ := hC; cases hC
                show pw _ _ _ _ _ _ _ 206 _ [.int (fX12_isWord ((4 : Int32)) SH FI FL FR)] _ _
                refine pw_ifeq (tgt := 245) (aX12_operand 106 rfl) (by decide) (fun b16 => ?_) (fun b16 => ?_)
                · skip
                  refine pw_aloadn (aX12_operand 127 rfl) rfl ?_
                  refine pw_iconst (v := (5 : Int32)) (aX12_operand 128 rfl) rfl ?_
                  refine pw_cf (pw_callV (Bs := [.int ((5 : Int32))]) (rest := []) (aX12_operand 129 rfl) um_RX12_535 ujX12_isWord wc_RX12_535.2.2.2.2 (by decide) (by decide) rfl rfl (fun d => rX12_isWord hkb ((5 : Int32)) n sl SH FI FL FR hok) (fun v17 n17 sl17 SH17 FI17 FL17 FR17 _ hC => ?_))
                  obtain ⟨rfl, hC⟩ := hC; cases hC
                  show pw _ _ _ _ _ _ _ 250 _ [.int (fX12_isWord ((5 : Int32)) SH FI FL FR)] _ _
                  refine pw_ifne (tgt := 262) (aX12_operand 130 rfl) (by decide) (fun b18 => ?_) (fun b18 => ?_)
                  · skip
                    refine pw_aloadn (aX12_operand 131 rfl) rfl ?_
                    refine pw_bipush (v := (6 : Int32)) (aX12_operand 132 rfl) rfl ?_
                    refine pw_cf (pw_callV (Bs := [.int ((6 : Int32))]) (rest := []) (aX12_operand 133 rfl) um_RX12_535 ujX12_isWord wc_RX12_535.2.2.2.2 (by decide) (by decide) rfl rfl (fun d => rX12_isWord hkb ((6 : Int32)) n sl SH FI FL FR hok) (fun v19 n19 sl19 SH19 FI19 FL19 FR19 _ hC => ?_))
                    obtain ⟨rfl, hC⟩ := hC; cases hC
                    show pw _ _ _ _ _ _ _ 259 _ [.int (fX12_isWord ((6 : Int32)) SH FI FL FR)] _ _
                    refine pw_ifeq (tgt := 296) (aX12_operand 134 rfl) (by decide) (fun b20 => ?_) (fun b20 => ?_)
                    · skip
                      refine pw_aloadn (aX12_operand 151 rfl) rfl ?_
                      refine pw_iconst (v := (1 : Int32)) (aX12_operand 152 rfl) rfl ?_
                      refine pw_callV (Bs := [.int ((1 : Int32))]) (rest := []) (aX12_operand 153 rfl) um_RX12_487 ujX12_fail wc_RX12_487.2.2.2.2 (by decide) (by decide) rfl rfl (fun d => rX12_fail hkb ((1 : Int32)) n sl SH FI FL FR hok) (fun v21 n21 sl21 SH21 FI21 FL21 FR21 hok21 _ => ?_)
                      show pw _ _ _ _ _ _ _ 301 _ [] _ _
                      refine pw_iconst (v := (0 : Int32)) (aX12_operand 154 rfl) rfl ?_
                      exact pw_iret (aX12_operand 155 rfl) hok21
                    · skip
                      exact pw_Li (L2 := [(0, .ref (base + 121))]) [0] (rX12_operand_262 hkb   n sl SH FI FL FR hok  ) ⟨rfl, trivial⟩
                  · skip
                    exact pw_Li (L2 := [(0, .ref (base + 121))]) [0] (rX12_operand_262 hkb   n sl SH FI FL FR hok  ) ⟨rfl, trivial⟩
                · skip
                  refine pw_aloadn (aX12_operand 107 rfl) rfl ?_
                  refine pw_getr (v := .int (FI 121 68)) (aX12_operand 108 rfl) uf_RX12_478 un_RX12_478 rfl ?_
                  refine pw_iconst (v := (1 : Int32)) (aX12_operand 109 rfl) rfl ?_
                  refine pw_iadd (aX12_operand 110 rfl) ?_
                  refine pw_istoren (L2 := [(1, .int ((FI 121 68) + ((1 : Int32)))), (0, .ref (base + 121))]) (aX12_operand 111 rfl) rfl ?_
                  refine pw_aloadn (aX12_operand 112 rfl) rfl ?_
                  refine pw_sipush (v := (145 : Int32)) (aX12_operand 113 rfl) rfl ?_
                  refine pw_callV (Bs := [.int ((145 : Int32))]) (rest := []) (aX12_operand 114 rfl) um_RX12_496 ujX12_emit wc_RX12_496.2.2.2.2 (by decide) (by decide) rfl rfl (fun d => rX12_emit hkb ((145 : Int32)) n sl SH FI FL FR hok) (fun v22 n22 sl22 SH22 FI22 FL22 FR22 hok22 _ => ?_)
                  show pw _ _ _ _ _ _ _ 223 _ [] _ _
                  refine pw_aloadn (aX12_operand 115 rfl) rfl ?_
                  refine pw_aloadn (aX12_operand 116 rfl) rfl ?_
                  refine pw_getr (v := .int (FI22 121 68)) (aX12_operand 117 rfl) uf_RX12_478 un_RX12_478 rfl ?_
                  refine pw_iconst (v := (1 : Int32)) (aX12_operand 118 rfl) rfl ?_
                  refine pw_iadd (aX12_operand 119 rfl) ?_
                  refine pw_putri (aX12_operand 120 rfl) uf_RX12_478 (fun _ _ _ => rfl) (fun t24 => ?_)
                  refine pw_aloadn (aX12_operand 121 rfl) rfl ?_
                  refine pw_aloadn (aX12_operand 122 rfl) rfl ?_
                  refine pw_iloadn (aX12_operand 123 rfl) rfl ?_
                  refine pw_callV (Bs := [.int ((FI 121 68) + ((1 : Int32)))]) (rest := [.ref (base + 121)]) (aX12_operand 124 rfl) um_RX12_589 ujX12_combined wc_RX12_589.2.2.2.2 (by decide) (by decide) rfl rfl (fun d => rX12_combined hkb ((FI 121 68) + ((1 : Int32))) n22 sl22 SH22 (h_up FI22 121 68 ((FI22 121 68) + ((1 : Int32)))) FL22 FR22 hok22) (fun v24 n24 sl24 SH24 FI24 FL24 FR24 hok24 _ => ?_)
                  show pw _ _ _ _ _ _ _ 239 _ [.long (v24), .ref (base + 121)] _ _
                  refine pw_callV (Bs := [.long (v24)]) (rest := []) (aX12_operand 125 rfl) um_RX12_593 ujX12_signed wc_RX12_593.2.2.2.2 (by decide) (by decide) rfl rfl (fun d => rX12_signed hkb (v24) n24 sl24 SH24 FI24 FL24 FR24 hok24) (fun v25 n25 sl25 SH25 FI25 FL25 FR25 hok25 _ => ?_)
                  show pw _ _ _ _ _ _ _ 242 _ [] _ _
                  refine pw_goto (tgt := 303) (aX12_operand 126 rfl) (by decide) ?_
                  refine pw_aloadn (aX12_operand 156 rfl) rfl ?_
                  refine pw_callV (Bs := []) (rest := []) (aX12_operand 157 rfl) um_RX12_596 ujX12_finished wc_RX12_596.2.2.2.2 (by decide) (by decide) rfl rfl (fun d => rX12_finished hkb  n25 sl25 SH25 FI25 FL25 FR25 hok25) (fun v26 n26 sl26 SH26 FI26 FL26 FR26 hok26 _ => ?_)
                  show pw _ _ _ _ _ _ _ 307 _ [] _ _
                  refine pw_iconst (v := (1 : Int32)) (aX12_operand 158 rfl) rfl ?_
                  exact pw_iret (aX12_operand 159 rfl) hok26
              · skip
                refine pw_aloadn (aX12_operand 100 rfl) rfl ?_
                refine pw_callV (Bs := []) (rest := []) (aX12_operand 101 rfl) um_RX12_586 ujX12_registered wc_RX12_586.2.2.2.2 (by decide) (by decide) rfl rfl (fun d => rX12_registered hkb  n sl SH FI FL FR hok) (fun v27 n27 sl27 SH27 FI27 FL27 FR27 hok27 _ => ?_)
                show pw _ _ _ _ _ _ _ 198 _ [] _ _
                refine pw_goto (tgt := 303) (aX12_operand 102 rfl) (by decide) ?_
                refine pw_aloadn (aX12_operand 156 rfl) rfl ?_
                refine pw_callV (Bs := []) (rest := []) (aX12_operand 157 rfl) um_RX12_596 ujX12_finished wc_RX12_596.2.2.2.2 (by decide) (by decide) rfl rfl (fun d => rX12_finished hkb  n27 sl27 SH27 FI27 FL27 FR27 hok27) (fun v28 n28 sl28 SH28 FI28 FL28 FR28 hok28 _ => ?_)
                show pw _ _ _ _ _ _ _ 307 _ [] _ _
                refine pw_iconst (v := (1 : Int32)) (aX12_operand 158 rfl) rfl ?_
                exact pw_iret (aX12_operand 159 rfl) hok28
          · skip
            refine pw_aloadn (aX12_operand 67 rfl) rfl ?_
            refine pw_callV (Bs := []) (rest := []) (aX12_operand 68 rfl) um_RX12_538 ujX12_opens wc_RX12_538.2.2.2.2 (by decide) (by decide) rfl rfl (fun d => rX12_opens hkb  n sl SH FI FL FR hok) (fun v29 n29 sl29 SH29 FI29 FL29 FR29 hok29 _ => ?_)
            show pw _ _ _ _ _ _ _ 138 _ [] _ _
            refine pw_aloadn (aX12_operand 69 rfl) rfl ?_
            refine pw_iconst (v := (0 : Int32)) (aX12_operand 70 rfl) rfl ?_
            refine pw_iconst (v := (-1 : Int32)) (aX12_operand 71 rfl) rfl ?_
            refine pw_callV (Bs := [.int ((0 : Int32)), .int ((-1 : Int32))]) (rest := []) (aX12_operand 72 rfl) um_RX12_580 ujX12_later wc_RX12_580.2.2.2.2 (by decide) (by decide) rfl rfl (fun d => rX12_later hkb ((0 : Int32)) ((-1 : Int32)) n29 sl29 SH29 FI29 FL29 FR29 hok29) (fun v30 n30 sl30 SH30 FI30 FL30 FR30 hok30 _ => ?_)
            show pw _ _ _ _ _ _ _ 144 _ [] _ _
            refine pw_iconst (v := (0 : Int32)) (aX12_operand 73 rfl) rfl ?_
            exact pw_iret (aX12_operand 74 rfl) hok30
        · skip
          exact pw_Li (L2 := [(0, .ref (base + 121))]) [0] (rX12_operand_40 hkb   n sl SH FI FL FR hok  ) ⟨rfl, trivial⟩
    · skip
      exact pw_Li (L2 := [(0, .ref (base + 121))]) [0] (rX12_operand_40 hkb   n sl SH FI FL FR hok  ) ⟨rfl, trivial⟩
  · skip
    exact pw_Li (L2 := [(0, .ref (base + 121))]) [0] (rX12_operand_40 hkb   n sl SH FI FL FR hok  ) ⟨rfl, trivial⟩
def RX12_operator_138   (l1i : Int32) (n sl : Nat) (SH : Nat → Nat × Nat) (FI : Nat → Nat → Int32) (FL : Nat → Nat → Int64) (FR : Nat → Nat → Option Nat) : Int32 → hS → Prop := (P_if ((FI 121 69).toInt = 0) (P_bi (RX12_binary (l1i) ((4 : Int32)) n sl SH FI FL FR) (fun v1 n1 sl1 SH1 FI1 FL1 FR1 => (P_if ((v1).toInt = 0) (P_ret ((0 : Int32)) (n1, sl1, SH1, FI1, FL1, FR1)) (P_ret ((1 : Int32)) (n1, sl1, SH1, FI1, FL1, FR1))))) (P_ret ((0 : Int32)) (n, sl, SH, FI, FL, FR)))
set_option maxHeartbeats 4000000 in
set_option maxRecDepth 100000 in
theorem rX12_operator_138 {sk : xK} {base N d : Nat}  (hkb : x_kb sk base)  (l1i : Int32)  (n sl : Nat) (SH : Nat → Nat × Nat) (FI : Nat → Nat → Int32) (FL : Nat → Nat → Int64) (FR : Nat → Nat → Option Nat) (hok : pk n SH FR)   : pw pj_I sk base N d none 242 138 [(0, .ref (base + 121)), (1, .int (l1i))] [] (n, sl, SH, FI, FL, FR) (RX12_operator_138   l1i n sl SH FI FL FR) := by
  unfold RX12_operator_138
  refine pw_aloadn (aX12_operator 79 rfl) rfl ?_
  refine pw_getr (v := .int (FI 121 69)) (aX12_operator 80 rfl) uf_RX12_475 un_RX12_475 rfl ?_
  refine pw_ifne (tgt := 158) (aX12_operator 81 rfl) (by decide) (fun b0 => ?_) (fun b0 => ?_)
  · skip
    refine pw_aloadn (aX12_operator 82 rfl) rfl ?_
    refine pw_iloadn (aX12_operator 83 rfl) rfl ?_
    refine pw_iconst (v := (4 : Int32)) (aX12_operator 84 rfl) rfl ?_
    refine pw_callV (Bs := [.int (l1i), .int ((4 : Int32))]) (rest := []) (aX12_operator 85 rfl) um_RX12_610 ujX12_binary wc_RX12_610.2.2.2.2 (by decide) (by decide) rfl rfl (fun d => rX12_binary hkb (l1i) ((4 : Int32)) n sl SH FI FL FR hok) (fun v1 n1 sl1 SH1 FI1 FL1 FR1 hok1 _ => ?_)
    show pw _ _ _ _ _ _ _ 151 _ [.int (v1)] _ _
    refine pw_ifeq (tgt := 158) (aX12_operator 86 rfl) (by decide) (fun b2 => ?_) (fun b2 => ?_)
    · skip
      refine pw_iconst (v := (0 : Int32)) (aX12_operator 89 rfl) rfl ?_
      exact pw_iret (aX12_operator 90 rfl) hok1
    · skip
      refine pw_iconst (v := (1 : Int32)) (aX12_operator 87 rfl) rfl ?_
      refine pw_goto (tgt := 159) (aX12_operator 88 rfl) (by decide) ?_
      exact pw_iret (aX12_operator 90 rfl) hok1
  · skip
    refine pw_iconst (v := (0 : Int32)) (aX12_operator 89 rfl) rfl ?_
    exact pw_iret (aX12_operator 90 rfl) hok
def RX12_operator  (n sl : Nat) (SH : Nat → Nat × Nat) (FI : Nat → Nat → Int32) (FL : Nat → Nat → Int64) (FR : Nat → Nat → Option Nat) : Int32 → hS → Prop := (P_and (p_in (FI 121 68) (SH 149).2) (P_and (p_in (FI 121 68) (SH 150).2) (P_if ((fX12_multiplies (FI 149 (FI 121 68).toInt.toNat) (FL 150 (FI 121 68).toInt.toNat) SH (h_up FI 121 91 ((0 : Int32))) FL FR).toInt = ((-1 : Int32)).toInt) (P_if ((fX12_adds (FI 121 68) SH (h_up FI 121 91 ((0 : Int32))) FL FR).toInt = 0) (P_and (p_in (FI 121 68) (SH 149).2) (P_and (p_in (FI 121 68) (SH 150).2) (P_if ((fX12_shifts (FI 149 (FI 121 68).toInt.toNat) (FL 150 (FI 121 68).toInt.toNat) SH (h_up FI 121 91 ((0 : Int32))) FL FR).toInt = ((-1 : Int32)).toInt) (P_and (p_in (FI 121 68) (SH 149).2) (P_and (p_in (FI 121 68) (SH 150).2) (P_if ((fX12_compares (FI 149 (FI 121 68).toInt.toNat) (FL 150 (FI 121 68).toInt.toNat) SH (h_up FI 121 91 ((0 : Int32))) FL FR).toInt = ((-1 : Int32)).toInt) (P_if ((fX12_isSign ((38 : Int32)) SH (h_up FI 121 91 ((0 : Int32))) FL FR).toInt = 0) (P_if ((fX12_isSign ((94 : Int32)) SH (h_up FI 121 91 ((0 : Int32))) FL FR).toInt = 0) (P_if ((fX12_isSign ((124 : Int32)) SH (h_up FI 121 91 ((0 : Int32))) FL FR).toInt = 0) (P_if ((fX12_isSign ((63 : Int32)) SH (h_up FI 121 91 ((0 : Int32))) FL FR).toInt = 0) (P_bi (RX12_ended  n sl SH (h_up FI 121 91 ((0 : Int32))) FL FR) (fun v17 n17 sl17 SH17 FI17 FL17 FR17 => (P_ret (v17) (n17, sl17, SH17, FI17, FL17, FR17)))) (P_bi (RX12_reduced ((1 : Int32)) n sl SH (h_up FI 121 91 ((0 : Int32))) FL FR) (fun v18 n18 sl18 SH18 FI18 FL18 FR18 => (P_bi (RX12_emit ((40 : Int32)) n18 sl18 SH18 FI18 FL18 FR18) (fun v19 n19 sl19 SH19 FI19 FL19 FR19 => (P_bi (RX12_emits ((0 : Int64)) ((2 : Int32)) n19 sl19 SH19 FI19 FL19 FR19) (fun v20 n20 sl20 SH20 FI20 FL20 FR20 => (P_bi (RX12_opens  n20 sl20 SH20 FI20 FL20 FR20) (fun v21 n21 sl21 SH21 FI21 FL21 FR21 => (P_bi (RX12_later ((0 : Int32)) ((-2 : Int32)) n21 sl21 SH21 FI21 FL21 FR21) (fun v22 n22 sl22 SH22 FI22 FL22 FR22 => (P_and (p_in ((FI22 121 90) - ((1 : Int32))) (SH22 167).2) (P_ret ((1 : Int32)) (n22, sl22, SH22, (h_up FI22 167 ((FI22 121 90) - ((1 : Int32))).toInt.toNat (FI19 121 73)), FL22, FR22)))))))))))))) (P_bi (RX12_binary ((33 : Int32)) ((1 : Int32)) n sl SH (h_up FI 121 91 ((0 : Int32))) FL FR) (fun v23 n23 sl23 SH23 FI23 FL23 FR23 => (P_ret (v23) (n23, sl23, SH23, FI23, FL23, FR23))))) (P_bi (RX12_binary ((39 : Int32)) ((2 : Int32)) n sl SH (h_up FI 121 91 ((0 : Int32))) FL FR) (fun v24 n24 sl24 SH24 FI24 FL24 FR24 => (P_ret (v24) (n24, sl24, SH24, FI24, FL24, FR24))))) (P_bi (RX12_binary ((26 : Int32)) ((3 : Int32)) n sl SH (h_up FI 121 91 ((0 : Int32))) FL FR) (fun v25 n25 sl25 SH25 FI25 FL25 FR25 => (P_ret (v25) (n25, sl25, SH25, FI25, FL25, FR25))))) (P_bi (RX12_reduced ((5 : Int32)) n sl SH (h_up FI 121 91 ((0 : Int32))) FL FR) (fun v26 n26 sl26 SH26 FI26 FL26 FR26 => (P_if ((fX12_tops  SH26 FI26 FL26 FR26).toInt = ((4 : Int32)).toInt) (P_bi (RX12_fail ((1 : Int32)) n26 sl26 SH26 FI26 FL26 FR26) (fun v29 n29 sl29 SH29 FI29 FL29 FR29 => (RX12_operator_138   (fX12_compares (FI 149 (FI 121 68).toInt.toNat) (FL 150 (FI 121 68).toInt.toNat) SH (h_up FI 121 91 ((0 : Int32))) FL FR) n29 sl29 SH29 FI29 FL29 FR29))) (RX12_operator_138   (fX12_compares (FI 149 (FI 121 68).toInt.toNat) (FL 150 (FI 121 68).toInt.toNat) SH (h_up FI 121 91 ((0 : Int32))) FL FR) n26 sl26 SH26 FI26 FL26 FR26))))))) (P_bi (RX12_binary (fX12_shifts (FI 149 (FI 121 68).toInt.toNat) (FL 150 (FI 121 68).toInt.toNat) SH (h_up FI 121 91 ((0 : Int32))) FL FR) ((5 : Int32)) n sl SH (h_up FI 121 91 ((0 : Int32))) FL FR) (fun v30 n30 sl30 SH30 FI30 FL30 FR30 => (P_ret (v30) (n30, sl30, SH30, FI30, FL30, FR30))))))) (P_bi (RX12_added  n sl SH (h_up FI 121 91 ((0 : Int32))) FL FR) (fun v31 n31 sl31 SH31 FI31 FL31 FR31 => (P_ret (v31) (n31, sl31, SH31, FI31, FL31, FR31))))) (P_bi (RX12_binary (fX12_multiplies (FI 149 (FI 121 68).toInt.toNat) (FL 150 (FI 121 68).toInt.toNat) SH (h_up FI 121 91 ((0 : Int32))) FL FR) ((7 : Int32)) n sl SH (h_up FI 121 91 ((0 : Int32))) FL FR) (fun v32 n32 sl32 SH32 FI32 FL32 FR32 => (P_ret (v32) (n32, sl32, SH32, FI32, FL32, FR32)))))))
set_option maxHeartbeats 4000000 in
set_option maxRecDepth 100000 in
theorem rX12_operator {sk : xK} {base N d : Nat} (hkb : x_kb sk base)  (n sl : Nat) (SH : Nat → Nat × Nat) (FI : Nat → Nat → Int32) (FL : Nat → Nat → Int64) (FR : Nat → Nat → Option Nat) (hok : pk n SH FR)  : pw pj_I sk base N d none 242 0 [(0, .ref (base + 121))] [] (n, sl, SH, FI, FL, FR) (RX12_operator  n sl SH FI FL FR) := by
  unfold RX12_operator
  refine pw_aloadn (aX12_operator 0 rfl) rfl ?_
  refine pw_iconst (v := (0 : Int32)) (aX12_operator 1 rfl) rfl ?_
  refine pw_putri (aX12_operator 2 rfl) uf_RX12_577 (fun _ _ _ => rfl) (fun t1 => ?_)
  refine pw_aloadn (aX12_operator 3 rfl) rfl ?_
  refine pw_aloadn (aX12_operator 4 rfl) rfl ?_
  refine pw_getr (v := .ref (base + 149)) (aX12_operator 5 rfl) uf_RX12_105 un_RX12_105 (congrArg (fun r => va_rf (h_rf base r)) (q121_62 (hok).2.1)) ?_
  refine pw_aloadn (aX12_operator 6 rfl) rfl ?_
  refine pw_getr (v := .int (FI 121 68)) (aX12_operator 7 rfl) uf_RX12_478 un_RX12_478 rfl ?_
  refine pw_ialdr (c := 149) (ix := (FI 121 68).toInt.toNat) (aX12_operator 8 rfl) rfl (fun _ => ?_)
  refine pw_aloadn (aX12_operator 9 rfl) rfl ?_
  refine pw_getr (v := .ref (base + 150)) (aX12_operator 10 rfl) uf_RX12_108 un_RX12_108 (congrArg (fun r => va_rf (h_rf base r)) (q121_63 (hok).2.1)) ?_
  refine pw_aloadn (aX12_operator 11 rfl) rfl ?_
  refine pw_getr (v := .int (FI 121 68)) (aX12_operator 12 rfl) uf_RX12_478 un_RX12_478 rfl ?_
  refine pw_laldr (c := 150) (ix := (FI 121 68).toInt.toNat) (aX12_operator 13 rfl) rfl (fun _ => ?_)
  refine pw_cf (pw_callV (Bs := [.int (FI 149 (FI 121 68).toInt.toNat), .long (FL 150 (FI 121 68).toInt.toNat)]) (rest := []) (aX12_operator 14 rfl) um_RX12_607 ujX12_multiplies wc_RX12_607.2.2.2.2 (by decide) (by decide) rfl rfl (fun d => rX12_multiplies hkb (FI 149 (FI 121 68).toInt.toNat) (FL 150 (FI 121 68).toInt.toNat) n sl SH (h_up FI 121 91 ((0 : Int32))) FL FR hok) (fun v1 n1 sl1 SH1 FI1 FL1 FR1 _ hC => ?_))
  obtain ⟨rfl, hC⟩ := hC; cases hC
  show pw _ _ _ _ _ _ _ 27 _ [.int (fX12_multiplies (FI 149 (FI 121 68).toInt.toNat) (FL 150 (FI 121 68).toInt.toNat) SH (h_up FI 121 91 ((0 : Int32))) FL FR)] _ _
  refine pw_istoren (L2 := [(1, .int (fX12_multiplies (FI 149 (FI 121 68).toInt.toNat) (FL 150 (FI 121 68).toInt.toNat) SH (h_up FI 121 91 ((0 : Int32))) FL FR)), (0, .ref (base + 121))]) (aX12_operator 15 rfl) rfl ?_
  refine pw_iloadn (aX12_operator 16 rfl) rfl ?_
  refine pw_iconst (v := (-1 : Int32)) (aX12_operator 17 rfl) rfl ?_
  refine pw_iceq (tgt := 41) (aX12_operator 18 rfl) (by decide) (fun b2 => ?_) (fun b2 => ?_)
  · skip
    refine pw_aloadn (aX12_operator 24 rfl) rfl ?_
    refine pw_aloadn (aX12_operator 25 rfl) rfl ?_
    refine pw_getr (v := .int (FI 121 68)) (aX12_operator 26 rfl) uf_RX12_478 un_RX12_478 rfl ?_
    refine pw_cf (pw_callV (Bs := [.int (FI 121 68)]) (rest := []) (aX12_operator 27 rfl) um_RX12_599 ujX12_adds wc_RX12_599.2.2.2.2 (by decide) (by decide) rfl rfl (fun d => rX12_adds hkb (FI 121 68) n sl SH (h_up FI 121 91 ((0 : Int32))) FL FR hok) (fun v3 n3 sl3 SH3 FI3 FL3 FR3 _ hC => ?_))
    obtain ⟨rfl, hC⟩ := hC; cases hC
    show pw _ _ _ _ _ _ _ 49 _ [.int (fX12_adds (FI 121 68) SH (h_up FI 121 91 ((0 : Int32))) FL FR)] _ _
    refine pw_ifeq (tgt := 57) (aX12_operator 28 rfl) (by decide) (fun b4 => ?_) (fun b4 => ?_)
    · skip
      refine pw_aloadn (aX12_operator 32 rfl) rfl ?_
      refine pw_aloadn (aX12_operator 33 rfl) rfl ?_
      refine pw_getr (v := .ref (base + 149)) (aX12_operator 34 rfl) uf_RX12_105 un_RX12_105 (congrArg (fun r => va_rf (h_rf base r)) (q121_62 (hok).2.1)) ?_
      refine pw_aloadn (aX12_operator 35 rfl) rfl ?_
      refine pw_getr (v := .int (FI 121 68)) (aX12_operator 36 rfl) uf_RX12_478 un_RX12_478 rfl ?_
      refine pw_ialdr (c := 149) (ix := (FI 121 68).toInt.toNat) (aX12_operator 37 rfl) rfl (fun _ => ?_)
      refine pw_aloadn (aX12_operator 38 rfl) rfl ?_
      refine pw_getr (v := .ref (base + 150)) (aX12_operator 39 rfl) uf_RX12_108 un_RX12_108 (congrArg (fun r => va_rf (h_rf base r)) (q121_63 (hok).2.1)) ?_
      refine pw_aloadn (aX12_operator 40 rfl) rfl ?_
      refine pw_getr (v := .int (FI 121 68)) (aX12_operator 41 rfl) uf_RX12_478 un_RX12_478 rfl ?_
      refine pw_laldr (c := 150) (ix := (FI 121 68).toInt.toNat) (aX12_operator 42 rfl) rfl (fun _ => ?_)
      refine pw_cf (pw_callV (Bs := [.int (FI 149 (FI 121 68).toInt.toNat), .long (FL 150 (FI 121 68).toInt.toNat)]) (rest := []) (aX12_operator 43 rfl) um_RX12_617 ujX12_shifts wc_RX12_617.2.2.2.2 (by decide) (by decide) rfl rfl (fun d => rX12_shifts hkb (FI 149 (FI 121 68).toInt.toNat) (FL 150 (FI 121 68).toInt.toNat) n sl SH (h_up FI 121 91 ((0 : Int32))) FL FR hok) (fun v5 n5 sl5 SH5 FI5 FL5 FR5 _ hC => ?_))
      obtain ⟨rfl, hC⟩ := hC; cases hC
      show pw _ _ _ _ _ _ _ 79 _ [.int (fX12_shifts (FI 149 (FI 121 68).toInt.toNat) (FL 150 (FI 121 68).toInt.toNat) SH (h_up FI 121 91 ((0 : Int32))) FL FR)] _ _
      refine pw_istoren (L2 := [(1, .int (fX12_shifts (FI 149 (FI 121 68).toInt.toNat) (FL 150 (FI 121 68).toInt.toNat) SH (h_up FI 121 91 ((0 : Int32))) FL FR)), (0, .ref (base + 121))]) (aX12_operator 44 rfl) rfl ?_
      refine pw_iloadn (aX12_operator 45 rfl) rfl ?_
      refine pw_iconst (v := (-1 : Int32)) (aX12_operator 46 rfl) rfl ?_
      refine pw_iceq (tgt := 92) (aX12_operator 47 rfl) (by decide) (fun b6 => ?_) (fun b6 => ?_)
      · skip
        refine pw_aloadn (aX12_operator 53 rfl) rfl ?_
        refine pw_aloadn (aX12_operator 54 rfl) rfl ?_
        refine pw_getr (v := .ref (base + 149)) (aX12_operator 55 rfl) uf_RX12_105 un_RX12_105 (congrArg (fun r => va_rf (h_rf base r)) (q121_62 (hok).2.1)) ?_
        refine pw_aloadn (aX12_operator 56 rfl) rfl ?_
        refine pw_getr (v := .int (FI 121 68)) (aX12_operator 57 rfl) uf_RX12_478 un_RX12_478 rfl ?_
        refine pw_ialdr (c := 149) (ix := (FI 121 68).toInt.toNat) (aX12_operator 58 rfl) rfl (fun _ => ?_)
        refine pw_aloadn (aX12_operator 59 rfl) rfl ?_
        refine pw_getr (v := .ref (base + 150)) (aX12_operator 60 rfl) uf_RX12_108 un_RX12_108 (congrArg (fun r => va_rf (h_rf base r)) (q121_63 (hok).2.1)) ?_
        refine pw_aloadn (aX12_operator 61 rfl) rfl ?_
        refine pw_getr (v := .int (FI 121 68)) (aX12_operator 62 rfl) uf_RX12_478 un_RX12_478 rfl ?_
        refine pw_laldr (c := 150) (ix := (FI 121 68).toInt.toNat) (aX12_operator 63 rfl) rfl (fun _ => ?_)
        refine pw_cf (pw_callV (Bs := [.int (FI 149 (FI 121 68).toInt.toNat), .long (FL 150 (FI 121 68).toInt.toNat)]) (rest := []) (aX12_operator 64 rfl) um_RX12_620 ujX12_compares wc_RX12_620.2.2.2.2 (by decide) (by decide) rfl rfl (fun d => rX12_compares hkb (FI 149 (FI 121 68).toInt.toNat) (FL 150 (FI 121 68).toInt.toNat) n sl SH (h_up FI 121 91 ((0 : Int32))) FL FR hok) (fun v7 n7 sl7 SH7 FI7 FL7 FR7 _ hC => ?_))
        obtain ⟨rfl, hC⟩ := hC; cases hC
        show pw _ _ _ _ _ _ _ 114 _ [.int (fX12_compares (FI 149 (FI 121 68).toInt.toNat) (FL 150 (FI 121 68).toInt.toNat) SH (h_up FI 121 91 ((0 : Int32))) FL FR)] _ _
        refine pw_istoren (L2 := [(1, .int (fX12_compares (FI 149 (FI 121 68).toInt.toNat) (FL 150 (FI 121 68).toInt.toNat) SH (h_up FI 121 91 ((0 : Int32))) FL FR)), (0, .ref (base + 121))]) (aX12_operator 65 rfl) rfl ?_
        refine pw_iloadn (aX12_operator 66 rfl) rfl ?_
        refine pw_iconst (v := (-1 : Int32)) (aX12_operator 67 rfl) rfl ?_
        refine pw_iceq (tgt := 160) (aX12_operator 68 rfl) (by decide) (fun b8 => ?_) (fun b8 => ?_)
        · skip
          refine pw_aloadn (aX12_operator 91 rfl) rfl ?_
          refine pw_bipush (v := (38 : Int32)) (aX12_operator 92 rfl) rfl ?_
          refine pw_cf (pw_callV (Bs := [.int ((38 : Int32))]) (rest := []) (aX12_operator 93 rfl) um_RX12_484 ujX12_isSign wc_RX12_484.2.2.2.2 (by decide) (by decide) rfl rfl (fun d => rX12_isSign hkb ((38 : Int32)) n sl SH (h_up FI 121 91 ((0 : Int32))) FL FR hok) (fun v9 n9 sl9 SH9 FI9 FL9 FR9 _ hC => ?_))
          obtain ⟨rfl, hC⟩ := hC; cases hC
          show pw _ _ _ _ _ _ _ 166 _ [.int (fX12_isSign ((38 : Int32)) SH (h_up FI 121 91 ((0 : Int32))) FL FR)] _ _
          refine pw_ifeq (tgt := 177) (aX12_operator 94 rfl) (by decide) (fun b10 => ?_) (fun b10 => ?_)
          · skip
            refine pw_aloadn (aX12_operator 100 rfl) rfl ?_
            refine pw_bipush (v := (94 : Int32)) (aX12_operator 101 rfl) rfl ?_
            refine pw_cf (pw_callV (Bs := [.int ((94 : Int32))]) (rest := []) (aX12_operator 102 rfl) um_RX12_484 ujX12_isSign wc_RX12_484.2.2.2.2 (by decide) (by decide) rfl rfl (fun d => rX12_isSign hkb ((94 : Int32)) n sl SH (h_up FI 121 91 ((0 : Int32))) FL FR hok) (fun v11 n11 sl11 SH11 FI11 FL11 FR11 _ hC => ?_))
            obtain ⟨rfl, hC⟩ := hC; cases hC
            show pw _ _ _ _ _ _ _ 183 _ [.int (fX12_isSign ((94 : Int32)) SH (h_up FI 121 91 ((0 : Int32))) FL FR)] _ _
            refine pw_ifeq (tgt := 194) (aX12_operator 103 rfl) (by decide) (fun b12 => ?_) (fun b12 => ?_)
            · skip
              refine pw_aloadn (aX12_operator 109 rfl) rfl ?_
              refine pw_bipush (v := (124 : Int32)) (aX12_operator 110 rfl) rfl ?_
              refine pw_cf (pw_callV (Bs := [.int ((124 : Int32))]) (rest := []) (aX12_operator 111 rfl) um_RX12_484 ujX12_isSign wc_RX12_484.2.2.2.2 (by decide) (by decide) rfl rfl (fun d => rX12_isSign hkb ((124 : Int32)) n sl SH (h_up FI 121 91 ((0 : Int32))) FL FR hok) (fun v13 n13 sl13 SH13 FI13 FL13 FR13 _ hC => ?_))
              obtain ⟨rfl, hC⟩ := hC; cases hC
              show pw _ _ _ _ _ _ _ 200 _ [.int (fX12_isSign ((124 : Int32)) SH (h_up FI 121 91 ((0 : Int32))) FL FR)] _ _
              refine pw_ifeq (tgt := 211) (aX12_operator 112 rfl) (by decide) (fun b14 => ?_) (fun b14 => ?_)
              · skip
                refine pw_aloadn (aX12_operator 118 rfl) rfl ?_
                refine pw_bipush (v := (63 : Int32)) (aX12_operator 119 rfl) rfl ?_
                refine pw_cf (pw_callV (Bs := [.int ((63 : Int32))]) (rest := []) (aX12_operator 120 rfl) um_RX12_484 ujX12_isSign wc_RX12_484.2.2.2.2 (by decide) (by decide) rfl rfl (fun d => rX12_isSign hkb ((63 : Int32)) n sl SH (h_up FI 121 91 ((0 : Int32))) FL FR hok) (fun v15 n15 sl15 SH15 FI15 FL15 FR15 _ hC => ?_))
                obtain ⟨rfl, hC⟩ := hC; cases hC
                show pw _ _ _ _ _ _ _ 217 _ [.int (fX12_isSign ((63 : Int32)) SH (h_up FI 121 91 ((0 : Int32))) FL FR)] _ _
                refine pw_ifeq (tgt := 267) (aX12_operator 121 rfl) (by decide) (fun b16 => ?_) (fun b16 => ?_)
                · skip
                  refine pw_aloadn (aX12_operator 151 rfl) rfl ?_
                  refine pw_callV (Bs := []) (rest := []) (aX12_operator 152 rfl) um_RX12_623 ujX12_ended wc_RX12_623.2.2.2.2 (by decide) (by decide) rfl rfl (fun d => rX12_ended hkb  n sl SH (h_up FI 121 91 ((0 : Int32))) FL FR hok) (fun v17 n17 sl17 SH17 FI17 FL17 FR17 hok17 _ => ?_)
                  show pw _ _ _ _ _ _ _ 271 _ [.int (v17)] _ _
                  exact pw_iret (aX12_operator 153 rfl) hok17
                · skip
                  refine pw_aloadn (aX12_operator 122 rfl) rfl ?_
                  refine pw_iconst (v := (1 : Int32)) (aX12_operator 123 rfl) rfl ?_
                  refine pw_callV (Bs := [.int ((1 : Int32))]) (rest := []) (aX12_operator 124 rfl) um_RX12_566 ujX12_reduced wc_RX12_566.2.2.2.2 (by decide) (by decide) rfl rfl (fun d => rX12_reduced hkb ((1 : Int32)) n sl SH (h_up FI 121 91 ((0 : Int32))) FL FR hok) (fun v18 n18 sl18 SH18 FI18 FL18 FR18 hok18 _ => ?_)
                  show pw _ _ _ _ _ _ _ 225 _ [] _ _
                  refine pw_aloadn (aX12_operator 125 rfl) rfl ?_
                  refine pw_bipush (v := (40 : Int32)) (aX12_operator 126 rfl) rfl ?_
                  refine pw_callV (Bs := [.int ((40 : Int32))]) (rest := []) (aX12_operator 127 rfl) um_RX12_496 ujX12_emit wc_RX12_496.2.2.2.2 (by decide) (by decide) rfl rfl (fun d => rX12_emit hkb ((40 : Int32)) n18 sl18 SH18 FI18 FL18 FR18 hok18) (fun v19 n19 sl19 SH19 FI19 FL19 FR19 hok19 _ => ?_)
                  show pw _ _ _ _ _ _ _ 231 _ [] _ _
                  refine pw_aloadn (aX12_operator 128 rfl) rfl ?_
                  refine pw_getr (v := .int (FI19 121 73)) (aX12_operator 129 rfl) uf_RX12_493 un_RX12_493 rfl ?_
                  refine pw_istoren (L2 := [(2, .int (FI19 121 73)), (1, .int (fX12_compares (FI 149 (FI 121 68).toInt.toNat) (FL 150 (FI 121 68).toInt.toNat) SH (h_up FI 121 91 ((0 : Int32))) FL FR)), (0, .ref (base + 121))]) (aX12_operator 130 rfl) rfl ?_
                  refine pw_aloadn (aX12_operator 131 rfl) rfl ?_
                  refine pw_lconst (v := (0 : Int64)) (aX12_operator 132 rfl) rfl ?_
                  refine pw_iconst (v := (2 : Int32)) (aX12_operator 133 rfl) rfl ?_
                  refine pw_callV (Bs := [.long ((0 : Int64)), .int ((2 : Int32))]) (rest := []) (aX12_operator 134 rfl) um_RX12_505 ujX12_emits wc_RX12_505.2.2.2.2 (by decide) (by decide) rfl rfl (fun d => rX12_emits hkb ((0 : Int64)) ((2 : Int32)) n19 sl19 SH19 FI19 FL19 FR19 hok19) (fun v20 n20 sl20 SH20 FI20 FL20 FR20 hok20 _ => ?_)
                  show pw _ _ _ _ _ _ _ 242 _ [] _ _
                  refine pw_aloadn (aX12_operator 135 rfl) rfl ?_
                  refine pw_callV (Bs := []) (rest := []) (aX12_operator 136 rfl) um_RX12_538 ujX12_opens wc_RX12_538.2.2.2.2 (by decide) (by decide) rfl rfl (fun d => rX12_opens hkb  n20 sl20 SH20 FI20 FL20 FR20 hok20) (fun v21 n21 sl21 SH21 FI21 FL21 FR21 hok21 _ => ?_)
                  show pw _ _ _ _ _ _ _ 246 _ [] _ _
                  refine pw_aloadn (aX12_operator 137 rfl) rfl ?_
                  refine pw_iconst (v := (0 : Int32)) (aX12_operator 138 rfl) rfl ?_
                  refine pw_bipush (v := (-2 : Int32)) (aX12_operator 139 rfl) rfl ?_
                  refine pw_callV (Bs := [.int ((0 : Int32)), .int ((-2 : Int32))]) (rest := []) (aX12_operator 140 rfl) um_RX12_580 ujX12_later wc_RX12_580.2.2.2.2 (by decide) (by decide) rfl rfl (fun d => rX12_later hkb ((0 : Int32)) ((-2 : Int32)) n21 sl21 SH21 FI21 FL21 FR21 hok21) (fun v22 n22 sl22 SH22 FI22 FL22 FR22 hok22 _ => ?_)
                  show pw _ _ _ _ _ _ _ 253 _ [] _ _
                  refine pw_aloadn (aX12_operator 141 rfl) rfl ?_
                  refine pw_getr (v := .ref (base + 167)) (aX12_operator 142 rfl) uf_RX12_160 un_RX12_160 (congrArg (fun r => va_rf (h_rf base r)) (q121_88 (hok22).2.1)) ?_
                  refine pw_aloadn (aX12_operator 143 rfl) rfl ?_
                  refine pw_getr (v := .int (FI22 121 90)) (aX12_operator 144 rfl) uf_RX12_556 un_RX12_556 rfl ?_
                  refine pw_iconst (v := (1 : Int32)) (aX12_operator 145 rfl) rfl ?_
                  refine pw_isub (aX12_operator 146 rfl) ?_
                  refine pw_iloadn (aX12_operator 147 rfl) rfl ?_
                  refine pw_iastr (c := 167) (ix := ((FI22 121 90) - ((1 : Int32))).toInt.toNat) (aX12_operator 148 rfl) rfl (fun _ => ?_)
                  refine pw_iconst (v := (1 : Int32)) (aX12_operator 149 rfl) rfl ?_
                  exact pw_iret (aX12_operator 150 rfl) hok22
              · skip
                refine pw_aloadn (aX12_operator 113 rfl) rfl ?_
                refine pw_bipush (v := (33 : Int32)) (aX12_operator 114 rfl) rfl ?_
                refine pw_iconst (v := (1 : Int32)) (aX12_operator 115 rfl) rfl ?_
                refine pw_callV (Bs := [.int ((33 : Int32)), .int ((1 : Int32))]) (rest := []) (aX12_operator 116 rfl) um_RX12_610 ujX12_binary wc_RX12_610.2.2.2.2 (by decide) (by decide) rfl rfl (fun d => rX12_binary hkb ((33 : Int32)) ((1 : Int32)) n sl SH (h_up FI 121 91 ((0 : Int32))) FL FR hok) (fun v23 n23 sl23 SH23 FI23 FL23 FR23 hok23 _ => ?_)
                show pw _ _ _ _ _ _ _ 210 _ [.int (v23)] _ _
                exact pw_iret (aX12_operator 117 rfl) hok23
            · skip
              refine pw_aloadn (aX12_operator 104 rfl) rfl ?_
              refine pw_bipush (v := (39 : Int32)) (aX12_operator 105 rfl) rfl ?_
              refine pw_iconst (v := (2 : Int32)) (aX12_operator 106 rfl) rfl ?_
              refine pw_callV (Bs := [.int ((39 : Int32)), .int ((2 : Int32))]) (rest := []) (aX12_operator 107 rfl) um_RX12_610 ujX12_binary wc_RX12_610.2.2.2.2 (by decide) (by decide) rfl rfl (fun d => rX12_binary hkb ((39 : Int32)) ((2 : Int32)) n sl SH (h_up FI 121 91 ((0 : Int32))) FL FR hok) (fun v24 n24 sl24 SH24 FI24 FL24 FR24 hok24 _ => ?_)
              show pw _ _ _ _ _ _ _ 193 _ [.int (v24)] _ _
              exact pw_iret (aX12_operator 108 rfl) hok24
          · skip
            refine pw_aloadn (aX12_operator 95 rfl) rfl ?_
            refine pw_bipush (v := (26 : Int32)) (aX12_operator 96 rfl) rfl ?_
            refine pw_iconst (v := (3 : Int32)) (aX12_operator 97 rfl) rfl ?_
            refine pw_callV (Bs := [.int ((26 : Int32)), .int ((3 : Int32))]) (rest := []) (aX12_operator 98 rfl) um_RX12_610 ujX12_binary wc_RX12_610.2.2.2.2 (by decide) (by decide) rfl rfl (fun d => rX12_binary hkb ((26 : Int32)) ((3 : Int32)) n sl SH (h_up FI 121 91 ((0 : Int32))) FL FR hok) (fun v25 n25 sl25 SH25 FI25 FL25 FR25 hok25 _ => ?_)
            show pw _ _ _ _ _ _ _ 176 _ [.int (v25)] _ _
            exact pw_iret (aX12_operator 99 rfl) hok25
        · skip
          refine pw_aloadn (aX12_operator 69 rfl) rfl ?_
          refine pw_iconst (v := (5 : Int32)) (aX12_operator 70 rfl) rfl ?_
          refine pw_callV (Bs := [.int ((5 : Int32))]) (rest := []) (aX12_operator 71 rfl) um_RX12_566 ujX12_reduced wc_RX12_566.2.2.2.2 (by decide) (by decide) rfl rfl (fun d => rX12_reduced hkb ((5 : Int32)) n sl SH (h_up FI 121 91 ((0 : Int32))) FL FR hok) (fun v26 n26 sl26 SH26 FI26 FL26 FR26 hok26 _ => ?_)
          show pw _ _ _ _ _ _ _ 125 _ [] _ _
          refine pw_aloadn (aX12_operator 72 rfl) rfl ?_
          refine pw_cf (pw_callV (Bs := []) (rest := []) (aX12_operator 73 rfl) um_RX12_559 ujX12_tops wc_RX12_559.2.2.2.2 (by decide) (by decide) rfl rfl (fun d => rX12_tops hkb  n26 sl26 SH26 FI26 FL26 FR26 hok26) (fun v27 n27 sl27 SH27 FI27 FL27 FR27 _ hC => ?_))
          obtain ⟨rfl, hC⟩ := hC; cases hC
          show pw _ _ _ _ _ _ _ 129 _ [.int (fX12_tops  SH26 FI26 FL26 FR26)] _ _
          refine pw_iconst (v := (4 : Int32)) (aX12_operator 74 rfl) rfl ?_
          refine pw_icne (tgt := 138) (aX12_operator 75 rfl) (by decide) (fun b28 => ?_) (fun b28 => ?_)
          · skip
            refine pw_aloadn (aX12_operator 76 rfl) rfl ?_
            refine pw_iconst (v := (1 : Int32)) (aX12_operator 77 rfl) rfl ?_
            refine pw_callV (Bs := [.int ((1 : Int32))]) (rest := []) (aX12_operator 78 rfl) um_RX12_487 ujX12_fail wc_RX12_487.2.2.2.2 (by decide) (by decide) rfl rfl (fun d => rX12_fail hkb ((1 : Int32)) n26 sl26 SH26 FI26 FL26 FR26 hok26) (fun v29 n29 sl29 SH29 FI29 FL29 FR29 hok29 _ => ?_)
            show pw _ _ _ _ _ _ _ 138 _ [] _ _
            exact pw_Li (L2 := [(0, .ref (base + 121)), (1, .int (fX12_compares (FI 149 (FI 121 68).toInt.toNat) (FL 150 (FI 121 68).toInt.toNat) SH (h_up FI 121 91 ((0 : Int32))) FL FR))]) [1, 0] (rX12_operator_138 hkb  (fX12_compares (FI 149 (FI 121 68).toInt.toNat) (FL 150 (FI 121 68).toInt.toNat) SH (h_up FI 121 91 ((0 : Int32))) FL FR) n29 sl29 SH29 FI29 FL29 FR29 hok29  ) ⟨rfl, rfl, trivial⟩
          · skip
            exact pw_Li (L2 := [(0, .ref (base + 121)), (1, .int (fX12_compares (FI 149 (FI 121 68).toInt.toNat) (FL 150 (FI 121 68).toInt.toNat) SH (h_up FI 121 91 ((0 : Int32))) FL FR))]) [1, 0] (rX12_operator_138 hkb  (fX12_compares (FI 149 (FI 121 68).toInt.toNat) (FL 150 (FI 121 68).toInt.toNat) SH (h_up FI 121 91 ((0 : Int32))) FL FR) n26 sl26 SH26 FI26 FL26 FR26 hok26  ) ⟨rfl, rfl, trivial⟩
      · skip
        refine pw_aloadn (aX12_operator 48 rfl) rfl ?_
        refine pw_iloadn (aX12_operator 49 rfl) rfl ?_
        refine pw_iconst (v := (5 : Int32)) (aX12_operator 50 rfl) rfl ?_
        refine pw_callV (Bs := [.int (fX12_shifts (FI 149 (FI 121 68).toInt.toNat) (FL 150 (FI 121 68).toInt.toNat) SH (h_up FI 121 91 ((0 : Int32))) FL FR), .int ((5 : Int32))]) (rest := []) (aX12_operator 51 rfl) um_RX12_610 ujX12_binary wc_RX12_610.2.2.2.2 (by decide) (by decide) rfl rfl (fun d => rX12_binary hkb (fX12_shifts (FI 149 (FI 121 68).toInt.toNat) (FL 150 (FI 121 68).toInt.toNat) SH (h_up FI 121 91 ((0 : Int32))) FL FR) ((5 : Int32)) n sl SH (h_up FI 121 91 ((0 : Int32))) FL FR hok) (fun v30 n30 sl30 SH30 FI30 FL30 FR30 hok30 _ => ?_)
        show pw _ _ _ _ _ _ _ 91 _ [.int (v30)] _ _
        exact pw_iret (aX12_operator 52 rfl) hok30
    · skip
      refine pw_aloadn (aX12_operator 29 rfl) rfl ?_
      refine pw_callV (Bs := []) (rest := []) (aX12_operator 30 rfl) um_RX12_614 ujX12_added wc_RX12_614.2.2.2.2 (by decide) (by decide) rfl rfl (fun d => rX12_added hkb  n sl SH (h_up FI 121 91 ((0 : Int32))) FL FR hok) (fun v31 n31 sl31 SH31 FI31 FL31 FR31 hok31 _ => ?_)
      show pw _ _ _ _ _ _ _ 56 _ [.int (v31)] _ _
      exact pw_iret (aX12_operator 31 rfl) hok31
  · skip
    refine pw_aloadn (aX12_operator 19 rfl) rfl ?_
    refine pw_iloadn (aX12_operator 20 rfl) rfl ?_
    refine pw_bipush (v := (7 : Int32)) (aX12_operator 21 rfl) rfl ?_
    refine pw_callV (Bs := [.int (fX12_multiplies (FI 149 (FI 121 68).toInt.toNat) (FL 150 (FI 121 68).toInt.toNat) SH (h_up FI 121 91 ((0 : Int32))) FL FR), .int ((7 : Int32))]) (rest := []) (aX12_operator 22 rfl) um_RX12_610 ujX12_binary wc_RX12_610.2.2.2.2 (by decide) (by decide) rfl rfl (fun d => rX12_binary hkb (fX12_multiplies (FI 149 (FI 121 68).toInt.toNat) (FL 150 (FI 121 68).toInt.toNat) SH (h_up FI 121 91 ((0 : Int32))) FL FR) ((7 : Int32)) n sl SH (h_up FI 121 91 ((0 : Int32))) FL FR hok) (fun v32 n32 sl32 SH32 FI32 FL32 FR32 hok32 _ => ?_)
    show pw _ _ _ _ _ _ _ 40 _ [.int (v32)] _ _
    exact pw_iret (aX12_operator 23 rfl) hok32
def RX12_chosen_54 (K7 : Int32 → Nat → Nat → (Nat → Nat × Nat) → (Nat → Nat → Int32) → (Nat → Nat → Int64) → (Nat → Nat → Option Nat) → Unit → hS → Prop)  (s0i : Int32) (n sl : Nat) (SH : Nat → Nat × Nat) (FI : Nat → Nat → Int32) (FL : Nat → Nat → Int64) (FR : Nat → Nat → Option Nat) : Unit → hS → Prop := (K7 (s0i) n sl SH FI FL FR)
set_option maxHeartbeats 4000000 in
set_option maxRecDepth 100000 in
theorem rX12_chosen_54 {sk : xK} {base N d : Nat} {K7 : Int32 → Nat → Nat → (Nat → Nat × Nat) → (Nat → Nat → Int32) → (Nat → Nat → Int64) → (Nat → Nat → Option Nat) → Unit → hS → Prop} (hkb : x_kb sk base)  (s0i : Int32) (l1i : Int32) (n sl : Nat) (SH : Nat → Nat × Nat) (FI : Nat → Nat → Int32) (FL : Nat → Nat → Int64) (FR : Nat → Nat → Option Nat) (hok : pk n SH FR)  (hK7 : ∀ (l1i : Int32) (n sl : Nat) (SH : Nat → Nat × Nat) (FI : Nat → Nat → Int32) (FL : Nat → Nat → Int64) (FR : Nat → Nat → Option Nat), pk n SH FR → pw pj_V sk base N d none 238 7 [(0, .ref (base + 121)), (1, .int (l1i))] [] (n, sl, SH, FI, FL, FR) (K7 l1i n sl SH FI FL FR)) : pw pj_V sk base N d none 238 54 [(0, .ref (base + 121)), (1, .int (l1i))] [.int (s0i)] (n, sl, SH, FI, FL, FR) (RX12_chosen_54 K7  s0i n sl SH FI FL FR) := by
  unfold RX12_chosen_54
  refine pw_istoren (L2 := [(1, .int (s0i)), (0, .ref (base + 121))]) (aX12_chosen 28 rfl) rfl ?_
  refine pw_goto (tgt := 7) (aX12_chosen 29 rfl) (by decide) ?_
  exact pw_Li (L2 := [(0, .ref (base + 121)), (1, .int (s0i))]) [1, 0] (hK7 (s0i) n sl SH FI FL FR hok) ⟨rfl, rfl, trivial⟩
def RX12_chosen_30 (K7 : Int32 → Nat → Nat → (Nat → Nat × Nat) → (Nat → Nat → Int32) → (Nat → Nat → Int64) → (Nat → Nat → Option Nat) → Unit → hS → Prop)  (s0i : Int32) (n sl : Nat) (SH : Nat → Nat × Nat) (FI : Nat → Nat → Int32) (FL : Nat → Nat → Int64) (FR : Nat → Nat → Option Nat) : Unit → hS → Prop := (K7 (s0i) n sl SH FI FL FR)
set_option maxHeartbeats 4000000 in
set_option maxRecDepth 100000 in
theorem rX12_chosen_30 {sk : xK} {base N d : Nat} {K7 : Int32 → Nat → Nat → (Nat → Nat × Nat) → (Nat → Nat → Int32) → (Nat → Nat → Int64) → (Nat → Nat → Option Nat) → Unit → hS → Prop} (hkb : x_kb sk base)  (s0i : Int32) (l1i : Int32) (n sl : Nat) (SH : Nat → Nat × Nat) (FI : Nat → Nat → Int32) (FL : Nat → Nat → Int64) (FR : Nat → Nat → Option Nat) (hok : pk n SH FR)  (hK7 : ∀ (l1i : Int32) (n sl : Nat) (SH : Nat → Nat × Nat) (FI : Nat → Nat → Int32) (FL : Nat → Nat → Int64) (FR : Nat → Nat → Option Nat), pk n SH FR → pw pj_V sk base N d none 238 7 [(0, .ref (base + 121)), (1, .int (l1i))] [] (n, sl, SH, FI, FL, FR) (K7 l1i n sl SH FI FL FR)) : pw pj_V sk base N d none 238 30 [(0, .ref (base + 121)), (1, .int (l1i))] [.int (s0i)] (n, sl, SH, FI, FL, FR) (RX12_chosen_30 K7  s0i n sl SH FI FL FR) := by
  unfold RX12_chosen_30
  refine pw_istoren (L2 := [(1, .int (s0i)), (0, .ref (base + 121))]) (aX12_chosen 16 rfl) rfl ?_
  refine pw_goto (tgt := 7) (aX12_chosen 17 rfl) (by decide) ?_
  exact pw_Li (L2 := [(0, .ref (base + 121)), (1, .int (s0i))]) [1, 0] (hK7 (s0i) n sl SH FI FL FR hok) ⟨rfl, rfl, trivial⟩
def BX12_chosen_7 (K7 : Int32 → Nat → Nat → (Nat → Nat × Nat) → (Nat → Nat → Int32) → (Nat → Nat → Int64) → (Nat → Nat → Option Nat) → Unit → hS → Prop)  (l1i : Int32) (n sl : Nat) (SH : Nat → Nat × Nat) (FI : Nat → Nat → Int32) (FL : Nat → Nat → Int64) (FR : Nat → Nat → Option Nat) : Unit → hS → Prop := (P_if ((FI 121 69).toInt = 0) (P_if ((l1i).toInt = 0) (P_bi (RX12_operator  n sl SH FI FL FR) (fun v2 n2 sl2 SH2 FI2 FL2 FR2 => (P_if ((v2).toInt = 0) (P_ret () (n2, sl2, SH2, FI2, FL2, FR2)) (P_if ((FI2 121 91).toInt = 0) (RX12_chosen_54 K7  ((1 : Int32)) n2 sl2 SH2 FI2 FL2 FR2) (RX12_chosen_54 K7  ((0 : Int32)) n2 sl2 SH2 FI2 FL2 FR2))))) (P_bi (RX12_operand  n sl SH FI FL FR) (fun v5 n5 sl5 SH5 FI5 FL5 FR5 => (P_if ((v5).toInt = 0) (RX12_chosen_30 K7  ((1 : Int32)) n5 sl5 SH5 FI5 FL5 FR5) (RX12_chosen_30 K7  ((0 : Int32)) n5 sl5 SH5 FI5 FL5 FR5))))) (P_ret () (n, sl, SH, FI, FL, FR)))
set_option maxHeartbeats 4000000 in
set_option maxRecDepth 100000 in
theorem bX12_chosen_7 {sk : xK} {base N d : Nat} {K7 : Int32 → Nat → Nat → (Nat → Nat × Nat) → (Nat → Nat → Int32) → (Nat → Nat → Int64) → (Nat → Nat → Option Nat) → Unit → hS → Prop} (hkb : x_kb sk base)  (l1i : Int32)  (n sl : Nat) (SH : Nat → Nat × Nat) (FI : Nat → Nat → Int32) (FL : Nat → Nat → Int64) (FR : Nat → Nat → Option Nat) (hok : pk n SH FR)  (hK7 : ∀ (l1i : Int32) (n sl : Nat) (SH : Nat → Nat × Nat) (FI : Nat → Nat → Int32) (FL : Nat → Nat → Int64) (FR : Nat → Nat → Option Nat), pk n SH FR → pw pj_V sk base N d none 238 7 [(0, .ref (base + 121)), (1, .int (l1i))] [] (n, sl, SH, FI, FL, FR) (K7 l1i n sl SH FI FL FR)) : pw pj_V sk base (N + 1) d none 238 7 [(0, .ref (base + 121)), (1, .int (l1i))] [] (n, sl, SH, FI, FL, FR) (BX12_chosen_7 K7  l1i n sl SH FI FL FR) := by
  unfold BX12_chosen_7
  refine pd_aloadn (aX12_chosen 5 rfl) rfl ?_
  refine pw_getr (v := .int (FI 121 69)) (aX12_chosen 6 rfl) uf_RX12_475 un_RX12_475 rfl ?_
  refine pw_ifne (tgt := 58) (aX12_chosen 7 rfl) (by decide) (fun b0 => ?_) (fun b0 => ?_)
  · skip
    refine pw_iloadn (aX12_chosen 8 rfl) rfl ?_
    refine pw_ifeq (tgt := 34) (aX12_chosen 9 rfl) (by decide) (fun b1 => ?_) (fun b1 => ?_)
    · skip
      refine pw_aloadn (aX12_chosen 18 rfl) rfl ?_
      refine pw_callV (Bs := []) (rest := []) (aX12_chosen 19 rfl) um_RX12_574 ujX12_operator wc_RX12_574.2.2.2.2 (by decide) (by decide) rfl rfl (fun d => rX12_operator hkb  n sl SH FI FL FR hok) (fun v2 n2 sl2 SH2 FI2 FL2 FR2 hok2 _ => ?_)
      show pw _ _ _ _ _ _ _ 38 _ [.int (v2)] _ _
      refine pw_ifne (tgt := 42) (aX12_chosen 20 rfl) (by decide) (fun b3 => ?_) (fun b3 => ?_)
      · skip
        exact pw_vret (aX12_chosen 21 rfl) hok2
      · skip
        refine pw_aloadn (aX12_chosen 22 rfl) rfl ?_
        refine pw_getr (v := .int (FI2 121 91)) (aX12_chosen 23 rfl) uf_RX12_577 un_RX12_577 rfl ?_
        refine pw_ifne (tgt := 53) (aX12_chosen 24 rfl) (by decide) (fun b4 => ?_) (fun b4 => ?_)
        · skip
          refine pw_iconst (v := (1 : Int32)) (aX12_chosen 25 rfl) rfl ?_
          refine pw_goto (tgt := 54) (aX12_chosen 26 rfl) (by decide) ?_
          exact pw_Li (L2 := [(0, .ref (base + 121)), (1, .int (l1i))]) [0, 1] (rX12_chosen_54 hkb  ((1 : Int32)) (l1i) n2 sl2 SH2 FI2 FL2 FR2 hok2  hK7) ⟨rfl, rfl, trivial⟩
        · skip
          refine pw_iconst (v := (0 : Int32)) (aX12_chosen 27 rfl) rfl ?_
          exact pw_Li (L2 := [(0, .ref (base + 121)), (1, .int (l1i))]) [0, 1] (rX12_chosen_54 hkb  ((0 : Int32)) (l1i) n2 sl2 SH2 FI2 FL2 FR2 hok2  hK7) ⟨rfl, rfl, trivial⟩
    · skip
      refine pw_aloadn (aX12_chosen 10 rfl) rfl ?_
      refine pw_callV (Bs := []) (rest := []) (aX12_chosen 11 rfl) um_RX12_571 ujX12_operand wc_RX12_571.2.2.2.2 (by decide) (by decide) rfl rfl (fun d => rX12_operand hkb  n sl SH FI FL FR hok) (fun v5 n5 sl5 SH5 FI5 FL5 FR5 hok5 _ => ?_)
      show pw _ _ _ _ _ _ _ 22 _ [.int (v5)] _ _
      refine pw_ifne (tgt := 29) (aX12_chosen 12 rfl) (by decide) (fun b6 => ?_) (fun b6 => ?_)
      · skip
        refine pw_iconst (v := (1 : Int32)) (aX12_chosen 13 rfl) rfl ?_
        refine pw_goto (tgt := 30) (aX12_chosen 14 rfl) (by decide) ?_
        exact pw_Li (L2 := [(0, .ref (base + 121)), (1, .int (l1i))]) [0, 1] (rX12_chosen_30 hkb  ((1 : Int32)) (l1i) n5 sl5 SH5 FI5 FL5 FR5 hok5  hK7) ⟨rfl, rfl, trivial⟩
      · skip
        refine pw_iconst (v := (0 : Int32)) (aX12_chosen 15 rfl) rfl ?_
        exact pw_Li (L2 := [(0, .ref (base + 121)), (1, .int (l1i))]) [0, 1] (rX12_chosen_30 hkb  ((0 : Int32)) (l1i) n5 sl5 SH5 FI5 FL5 FR5 hok5  hK7) ⟨rfl, rfl, trivial⟩
  · skip
    exact pw_vret (aX12_chosen 30 rfl) hok
def GX12_chosen_7   : Nat → Int32 → Nat → Nat → (Nat → Nat × Nat) → (Nat → Nat → Int32) → (Nat → Nat → Int64) → (Nat → Nat → Option Nat) → Unit → hS → Prop
  | 0, _, _, _, _, _, _, _ => fun _ _ => False
  | g + 1, l1i, n, sl, SH, FI, FL, FR => BX12_chosen_7  (GX12_chosen_7   g)  l1i n sl SH FI FL FR
def RX12_chosen_7   (l1i : Int32) (n sl : Nat) (SH : Nat → Nat × Nat) (FI : Nat → Nat → Int32) (FL : Nat → Nat → Int64) (FR : Nat → Nat → Option Nat) : Unit → hS → Prop := fun v s => ∃ g, GX12_chosen_7   g l1i n sl SH FI FL FR v s
theorem gX12_chosen_7 {sk : xK} {base d : Nat}  (hkb : x_kb sk base)  (N : Nat) :  ∀ (l1i : Int32)  (n sl : Nat) (SH : Nat → Nat × Nat) (FI : Nat → Nat → Int32) (FL : Nat → Nat → Int64) (FR : Nat → Nat → Option Nat), pk n SH FR → pw pj_V sk base N d none 238 7 [(0, .ref (base + 121)), (1, .int (l1i))] [] (n, sl, SH, FI, FL, FR) (GX12_chosen_7   (N + 1) l1i n sl SH FI FL FR) := by
  induction N with
  | zero => intros; exact pw_0
  | succ N ih => intro   l1i  n sl SH FI FL FR hok; exact bX12_chosen_7 hkb  l1i  n sl SH FI FL FR hok  (ih  )
theorem rX12_chosen_7 {sk : xK} {base N d : Nat}  (hkb : x_kb sk base)  (l1i : Int32)  (n sl : Nat) (SH : Nat → Nat × Nat) (FI : Nat → Nat → Int32) (FL : Nat → Nat → Int64) (FR : Nat → Nat → Option Nat) (hok : pk n SH FR)   : pw pj_V sk base N d none 238 7 [(0, .ref (base + 121)), (1, .int (l1i))] [] (n, sl, SH, FI, FL, FR) (RX12_chosen_7   l1i n sl SH FI FL FR) := pw_cons (gX12_chosen_7 hkb  N   l1i  n sl SH FI FL FR hok) (fun _ _ h => ⟨_, h⟩)
def RX12_chosen  (n sl : Nat) (SH : Nat → Nat × Nat) (FI : Nat → Nat → Int32) (FL : Nat → Nat → Int64) (FR : Nat → Nat → Option Nat) : Unit → hS → Prop := (RX12_chosen_7   ((1 : Int32)) n sl SH (h_up FI 121 90 ((0 : Int32))) FL FR)
set_option maxHeartbeats 4000000 in
set_option maxRecDepth 100000 in
theorem rX12_chosen {sk : xK} {base N d : Nat} (hkb : x_kb sk base)  (n sl : Nat) (SH : Nat → Nat × Nat) (FI : Nat → Nat → Int32) (FL : Nat → Nat → Int64) (FR : Nat → Nat → Option Nat) (hok : pk n SH FR)  : pw pj_V sk base N d none 238 0 [(0, .ref (base + 121))] [] (n, sl, SH, FI, FL, FR) (RX12_chosen  n sl SH FI FL FR) := by
  unfold RX12_chosen
  refine pw_aloadn (aX12_chosen 0 rfl) rfl ?_
  refine pw_iconst (v := (0 : Int32)) (aX12_chosen 1 rfl) rfl ?_
  refine pw_putri (aX12_chosen 2 rfl) uf_RX12_556 (fun _ _ _ => rfl) (fun t1 => ?_)
  refine pw_iconst (v := (1 : Int32)) (aX12_chosen 3 rfl) rfl ?_
  refine pw_istoren (L2 := [(1, .int ((1 : Int32))), (0, .ref (base + 121))]) (aX12_chosen 4 rfl) rfl ?_
  exact pw_Li (L2 := [(0, .ref (base + 121)), (1, .int ((1 : Int32)))]) [1, 0] (rX12_chosen_7 hkb  ((1 : Int32)) n sl SH (h_up FI 121 90 ((0 : Int32))) FL FR hok  ) ⟨rfl, rfl, trivial⟩
def fX12_isPlace  (SH : Nat → Nat × Nat) (FI : Nat → Nat → Int32) (FL : Nat → Nat → Int64) (FR : Nat → Nat → Option Nat) : Int32 := (if (fX12_isSign ((91 : Int32)) SH FI FL FR).toInt = 0 then (if (fX12_isWord ((0 : Int32)) SH FI FL FR).toInt = 0 then (if (fX12_isWord ((1 : Int32)) SH FI FL FR).toInt = 0 then (if (fX12_isWord ((2 : Int32)) SH FI FL FR).toInt = 0 then (if (fX12_isWord ((3 : Int32)) SH FI FL FR).toInt = 0 then ((0 : Int32)) else ((1 : Int32))) else ((1 : Int32))) else ((1 : Int32))) else ((1 : Int32))) else ((1 : Int32)))
set_option maxHeartbeats 4000000 in
set_option maxRecDepth 100000 in
theorem rX12_isPlace {sk : xK} {base N d : Nat} (hkb : x_kb sk base)  (n sl : Nat) (SH : Nat → Nat × Nat) (FI : Nat → Nat → Int32) (FL : Nat → Nat → Int64) (FR : Nat → Nat → Option Nat) (hok : pk n SH FR)  : pw pj_I sk base N d none 228 0 [(0, .ref (base + 121))] [] (n, sl, SH, FI, FL, FR) (P_ret (fX12_isPlace  SH FI FL FR) (n, sl, SH, FI, FL, FR)) := by
  unfold fX12_isPlace
  refine pw_aloadn (aX12_isPlace 0 rfl) rfl ?_
  refine pw_bipush (v := (91 : Int32)) (aX12_isPlace 1 rfl) rfl ?_
  refine pw_cf (pw_callV (Bs := [.int ((91 : Int32))]) (rest := []) (aX12_isPlace 2 rfl) um_RX12_484 ujX12_isSign wc_RX12_484.2.2.2.2 (by decide) (by decide) rfl rfl (fun d => rX12_isSign hkb ((91 : Int32)) n sl SH FI FL FR hok) (fun v0 n0 sl0 SH0 FI0 FL0 FR0 _ hC => ?_))
  obtain ⟨rfl, hC⟩ := hC; cases hC
  show pw _ _ _ _ _ _ _ 6 _ [.int (fX12_isSign ((91 : Int32)) SH FI FL FR)] _ _
  refine pw_ite (pw_ifne (tgt := 41) (aX12_isPlace 3 rfl) (by decide) (fun b1 => ?_) (fun b1 => ?_))
  · skip
    refine pw_aloadn (aX12_isPlace 4 rfl) rfl ?_
    refine pw_iconst (v := (0 : Int32)) (aX12_isPlace 5 rfl) rfl ?_
    refine pw_cf (pw_callV (Bs := [.int ((0 : Int32))]) (rest := []) (aX12_isPlace 6 rfl) um_RX12_535 ujX12_isWord wc_RX12_535.2.2.2.2 (by decide) (by decide) rfl rfl (fun d => rX12_isWord hkb ((0 : Int32)) n sl SH FI FL FR hok) (fun v2 n2 sl2 SH2 FI2 FL2 FR2 _ hC => ?_))
    obtain ⟨rfl, hC⟩ := hC; cases hC
    show pw _ _ _ _ _ _ _ 14 _ [.int (fX12_isWord ((0 : Int32)) SH FI FL FR)] _ _
    refine pw_ite (pw_ifne (tgt := 41) (aX12_isPlace 7 rfl) (by decide) (fun b3 => ?_) (fun b3 => ?_))
    · skip
      refine pw_aloadn (aX12_isPlace 8 rfl) rfl ?_
      refine pw_iconst (v := (1 : Int32)) (aX12_isPlace 9 rfl) rfl ?_
      refine pw_cf (pw_callV (Bs := [.int ((1 : Int32))]) (rest := []) (aX12_isPlace 10 rfl) um_RX12_535 ujX12_isWord wc_RX12_535.2.2.2.2 (by decide) (by decide) rfl rfl (fun d => rX12_isWord hkb ((1 : Int32)) n sl SH FI FL FR hok) (fun v4 n4 sl4 SH4 FI4 FL4 FR4 _ hC => ?_))
      obtain ⟨rfl, hC⟩ := hC; cases hC
      show pw _ _ _ _ _ _ _ 22 _ [.int (fX12_isWord ((1 : Int32)) SH FI FL FR)] _ _
      refine pw_ite (pw_ifne (tgt := 41) (aX12_isPlace 11 rfl) (by decide) (fun b5 => ?_) (fun b5 => ?_))
      · skip
        refine pw_aloadn (aX12_isPlace 12 rfl) rfl ?_
        refine pw_iconst (v := (2 : Int32)) (aX12_isPlace 13 rfl) rfl ?_
        refine pw_cf (pw_callV (Bs := [.int ((2 : Int32))]) (rest := []) (aX12_isPlace 14 rfl) um_RX12_535 ujX12_isWord wc_RX12_535.2.2.2.2 (by decide) (by decide) rfl rfl (fun d => rX12_isWord hkb ((2 : Int32)) n sl SH FI FL FR hok) (fun v6 n6 sl6 SH6 FI6 FL6 FR6 _ hC => ?_))
        obtain ⟨rfl, hC⟩ := hC; cases hC
        show pw _ _ _ _ _ _ _ 30 _ [.int (fX12_isWord ((2 : Int32)) SH FI FL FR)] _ _
        refine pw_ite (pw_ifne (tgt := 41) (aX12_isPlace 15 rfl) (by decide) (fun b7 => ?_) (fun b7 => ?_))
        · skip
          refine pw_aloadn (aX12_isPlace 16 rfl) rfl ?_
          refine pw_iconst (v := (3 : Int32)) (aX12_isPlace 17 rfl) rfl ?_
          refine pw_cf (pw_callV (Bs := [.int ((3 : Int32))]) (rest := []) (aX12_isPlace 18 rfl) um_RX12_535 ujX12_isWord wc_RX12_535.2.2.2.2 (by decide) (by decide) rfl rfl (fun d => rX12_isWord hkb ((3 : Int32)) n sl SH FI FL FR hok) (fun v8 n8 sl8 SH8 FI8 FL8 FR8 _ hC => ?_))
          obtain ⟨rfl, hC⟩ := hC; cases hC
          show pw _ _ _ _ _ _ _ 38 _ [.int (fX12_isWord ((3 : Int32)) SH FI FL FR)] _ _
          refine pw_ite (pw_ifeq (tgt := 45) (aX12_isPlace 19 rfl) (by decide) (fun b9 => ?_) (fun b9 => ?_))
          · skip
            refine pw_iconst (v := (0 : Int32)) (aX12_isPlace 22 rfl) rfl ?_
            exact pw_iret (aX12_isPlace 23 rfl) hok
          · skip
            refine pw_iconst (v := (1 : Int32)) (aX12_isPlace 20 rfl) rfl ?_
            refine pw_goto (tgt := 46) (aX12_isPlace 21 rfl) (by decide) ?_
            exact pw_iret (aX12_isPlace 23 rfl) hok
        · skip
          refine pw_iconst (v := (1 : Int32)) (aX12_isPlace 20 rfl) rfl ?_
          refine pw_goto (tgt := 46) (aX12_isPlace 21 rfl) (by decide) ?_
          exact pw_iret (aX12_isPlace 23 rfl) hok
      · skip
        refine pw_iconst (v := (1 : Int32)) (aX12_isPlace 20 rfl) rfl ?_
        refine pw_goto (tgt := 46) (aX12_isPlace 21 rfl) (by decide) ?_
        exact pw_iret (aX12_isPlace 23 rfl) hok
    · skip
      refine pw_iconst (v := (1 : Int32)) (aX12_isPlace 20 rfl) rfl ?_
      refine pw_goto (tgt := 46) (aX12_isPlace 21 rfl) (by decide) ?_
      exact pw_iret (aX12_isPlace 23 rfl) hok
  · skip
    refine pw_iconst (v := (1 : Int32)) (aX12_isPlace 20 rfl) rfl ?_
    refine pw_goto (tgt := 46) (aX12_isPlace 21 rfl) (by decide) ?_
    exact pw_iret (aX12_isPlace 23 rfl) hok
def RX12_place_101    (n sl : Nat) (SH : Nat → Nat × Nat) (FI : Nat → Nat → Int32) (FL : Nat → Nat → Int64) (FR : Nat → Nat → Option Nat) : Unit → hS → Prop := (P_if ((FI 121 69).toInt = 0) (P_and (p_in (FI 121 68) (SH 150).2) (P_bi (RX12_emit (((80 : Int32)) + ((FL 150 (FI 121 68).toInt.toNat).toInt32)) n sl SH FI FL FR) (fun v1 n1 sl1 SH1 FI1 FL1 FR1 => (P_ret () (n1, sl1, SH1, (h_up FI1 121 68 ((FI1 121 68) + ((1 : Int32)))), FL1, FR1))))) (P_ret () (n, sl, SH, FI, FL, FR)))
set_option maxHeartbeats 4000000 in
set_option maxRecDepth 100000 in
theorem rX12_place_101 {sk : xK} {base N d : Nat}  (hkb : x_kb sk base)   (l1i : Int32) (n sl : Nat) (SH : Nat → Nat × Nat) (FI : Nat → Nat → Int32) (FL : Nat → Nat → Int64) (FR : Nat → Nat → Option Nat) (hok : pk n SH FR)   : pw pj_V sk base N d none 230 101 [(0, .ref (base + 121)), (1, .int (l1i))] [] (n, sl, SH, FI, FL, FR) (RX12_place_101    n sl SH FI FL FR) := by
  unfold RX12_place_101
  refine pw_aloadn (aX12_place 55 rfl) rfl ?_
  refine pw_getr (v := .int (FI 121 69)) (aX12_place 56 rfl) uf_RX12_475 un_RX12_475 rfl ?_
  refine pw_ifeq (tgt := 109) (aX12_place 57 rfl) (by decide) (fun b0 => ?_) (fun b0 => ?_)
  · skip
    refine pw_aloadn (aX12_place 59 rfl) rfl ?_
    refine pw_bipush (v := (80 : Int32)) (aX12_place 60 rfl) rfl ?_
    refine pw_aloadn (aX12_place 61 rfl) rfl ?_
    refine pw_getr (v := .ref (base + 150)) (aX12_place 62 rfl) uf_RX12_108 un_RX12_108 (congrArg (fun r => va_rf (h_rf base r)) (q121_63 (hok).2.1)) ?_
    refine pw_aloadn (aX12_place 63 rfl) rfl ?_
    refine pw_getr (v := .int (FI 121 68)) (aX12_place 64 rfl) uf_RX12_478 un_RX12_478 rfl ?_
    refine pw_laldr (c := 150) (ix := (FI 121 68).toInt.toNat) (aX12_place 65 rfl) rfl (fun _ => ?_)
    refine pw_l2i (aX12_place 66 rfl) ?_
    refine pw_iadd (aX12_place 67 rfl) ?_
    refine pw_callV (Bs := [.int (((80 : Int32)) + ((FL 150 (FI 121 68).toInt.toNat).toInt32))]) (rest := []) (aX12_place 68 rfl) um_RX12_496 ujX12_emit wc_RX12_496.2.2.2.2 (by decide) (by decide) rfl rfl (fun d => rX12_emit hkb (((80 : Int32)) + ((FL 150 (FI 121 68).toInt.toNat).toInt32)) n sl SH FI FL FR hok) (fun v1 n1 sl1 SH1 FI1 FL1 FR1 hok1 _ => ?_)
    show pw _ _ _ _ _ _ _ 126 _ [] _ _
    refine pw_aloadn (aX12_place 69 rfl) rfl ?_
    refine pw_aloadn (aX12_place 70 rfl) rfl ?_
    refine pw_getr (v := .int (FI1 121 68)) (aX12_place 71 rfl) uf_RX12_478 un_RX12_478 rfl ?_
    refine pw_iconst (v := (1 : Int32)) (aX12_place 72 rfl) rfl ?_
    refine pw_iadd (aX12_place 73 rfl) ?_
    refine pw_putri (aX12_place 74 rfl) uf_RX12_478 (fun _ _ _ => rfl) (fun t3 => ?_)
    refine pw_goto (tgt := 304) (aX12_place 75 rfl) (by decide) ?_
    exact pw_vret (aX12_place 165 rfl) hok1
  · skip
    exact pw_vret (aX12_place 58 rfl) hok
def RX12_place_256 (K200 : Int32 → Int32 → Nat → Nat → (Nat → Nat × Nat) → (Nat → Nat → Int32) → (Nat → Nat → Int64) → (Nat → Nat → Option Nat) → Unit → hS → Prop)  (l2i : Int32) (l3i : Int32) (n sl : Nat) (SH : Nat → Nat × Nat) (FI : Nat → Nat → Int32) (FL : Nat → Nat → Int64) (FR : Nat → Nat → Option Nat) : Unit → hS → Prop := (P_and (p_in (FI 121 68) (SH 150).2) (P_bi (RX12_emit ((FL 150 (FI 121 68).toInt.toNat).toInt32) n sl SH FI FL FR) (fun v0 n0 sl0 SH0 FI0 FL0 FR0 => (K200 (l2i) ((l3i) + ((1 : Int32))) n0 sl0 SH0 (h_up FI0 121 68 ((FI0 121 68) + ((1 : Int32)))) FL0 FR0))))
set_option maxHeartbeats 4000000 in
set_option maxRecDepth 100000 in
theorem rX12_place_256 {sk : xK} {base N d : Nat} {K200 : Int32 → Int32 → Nat → Nat → (Nat → Nat × Nat) → (Nat → Nat → Int32) → (Nat → Nat → Int64) → (Nat → Nat → Option Nat) → Unit → hS → Prop} (hkb : x_kb sk base)  (l2i : Int32) (l3i : Int32) (l1i : Int32) (n sl : Nat) (SH : Nat → Nat × Nat) (FI : Nat → Nat → Int32) (FL : Nat → Nat → Int64) (FR : Nat → Nat → Option Nat) (hok : pk n SH FR)  (hK200 : ∀ (l2i : Int32) (l3i : Int32) (l1i : Int32) (n sl : Nat) (SH : Nat → Nat × Nat) (FI : Nat → Nat → Int32) (FL : Nat → Nat → Int64) (FR : Nat → Nat → Option Nat), pk n SH FR → pw pj_V sk base N d none 230 200 [(0, .ref (base + 121)), (1, .int (l1i)), (2, .int (l2i)), (3, .int (l3i))] [] (n, sl, SH, FI, FL, FR) (K200 l2i l3i n sl SH FI FL FR)) : pw pj_V sk base N d none 230 256 [(0, .ref (base + 121)), (1, .int (l1i)), (2, .int (l2i)), (3, .int (l3i))] [] (n, sl, SH, FI, FL, FR) (RX12_place_256 K200  l2i l3i n sl SH FI FL FR) := by
  unfold RX12_place_256
  refine pw_aloadn (aX12_place 137 rfl) rfl ?_
  refine pw_aloadn (aX12_place 138 rfl) rfl ?_
  refine pw_getr (v := .ref (base + 150)) (aX12_place 139 rfl) uf_RX12_108 un_RX12_108 (congrArg (fun r => va_rf (h_rf base r)) (q121_63 (hok).2.1)) ?_
  refine pw_aloadn (aX12_place 140 rfl) rfl ?_
  refine pw_getr (v := .int (FI 121 68)) (aX12_place 141 rfl) uf_RX12_478 un_RX12_478 rfl ?_
  refine pw_laldr (c := 150) (ix := (FI 121 68).toInt.toNat) (aX12_place 142 rfl) rfl (fun _ => ?_)
  refine pw_l2i (aX12_place 143 rfl) ?_
  refine pw_callV (Bs := [.int ((FL 150 (FI 121 68).toInt.toNat).toInt32)]) (rest := []) (aX12_place 144 rfl) um_RX12_496 ujX12_emit wc_RX12_496.2.2.2.2 (by decide) (by decide) rfl rfl (fun d => rX12_emit hkb ((FL 150 (FI 121 68).toInt.toNat).toInt32) n sl SH FI FL FR hok) (fun v0 n0 sl0 SH0 FI0 FL0 FR0 hok0 _ => ?_)
  show pw _ _ _ _ _ _ _ 270 _ [] _ _
  refine pw_iloadn (aX12_place 145 rfl) rfl ?_
  refine pw_iconst (v := (1 : Int32)) (aX12_place 146 rfl) rfl ?_
  refine pw_iadd (aX12_place 147 rfl) ?_
  refine pw_istoren (L2 := [(3, .int ((l3i) + ((1 : Int32)))), (0, .ref (base + 121)), (1, .int (l1i)), (2, .int (l2i))]) (aX12_place 148 rfl) rfl ?_
  refine pw_aloadn (aX12_place 149 rfl) rfl ?_
  refine pw_aloadn (aX12_place 150 rfl) rfl ?_
  refine pw_getr (v := .int (FI0 121 68)) (aX12_place 151 rfl) uf_RX12_478 un_RX12_478 rfl ?_
  refine pw_iconst (v := (1 : Int32)) (aX12_place 152 rfl) rfl ?_
  refine pw_iadd (aX12_place 153 rfl) ?_
  refine pw_putri (aX12_place 154 rfl) uf_RX12_478 (fun _ _ _ => rfl) (fun t2 => ?_)
  refine pw_goto (tgt := 200) (aX12_place 155 rfl) (by decide) ?_
  exact pw_Li (L2 := [(0, .ref (base + 121)), (1, .int (l1i)), (2, .int (l2i)), (3, .int ((l3i) + ((1 : Int32))))]) [3, 0, 1, 2] (hK200 (l2i) ((l3i) + ((1 : Int32))) (l1i) n0 sl0 SH0 (h_up FI0 121 68 ((FI0 121 68) + ((1 : Int32)))) FL0 FR0 hok0) ⟨rfl, rfl, rfl, rfl, trivial⟩
def RX12_place_287   (l2i : Int32) (l3i : Int32) (n sl : Nat) (SH : Nat → Nat × Nat) (FI : Nat → Nat → Int32) (FL : Nat → Nat → Int64) (FR : Nat → Nat → Option Nat) : Unit → hS → Prop := (P_if (((4000 : Int32)).toInt < (FI 121 73).toInt) (P_ret () (n, sl, SH, FI, FL, FR)) (P_and (p_in (l2i) (SH 154).2) (P_ret () (n, sl, SH, (h_up FI 154 (l2i).toInt.toNat (l3i)), FL, FR))))
set_option maxHeartbeats 4000000 in
set_option maxRecDepth 100000 in
theorem rX12_place_287 {sk : xK} {base N d : Nat}  (hkb : x_kb sk base)  (l2i : Int32) (l3i : Int32) (l1i : Int32) (n sl : Nat) (SH : Nat → Nat × Nat) (FI : Nat → Nat → Int32) (FL : Nat → Nat → Int64) (FR : Nat → Nat → Option Nat) (hok : pk n SH FR)   : pw pj_V sk base N d none 230 287 [(0, .ref (base + 121)), (1, .int (l1i)), (2, .int (l2i)), (3, .int (l3i))] [] (n, sl, SH, FI, FL, FR) (RX12_place_287   l2i l3i n sl SH FI FL FR) := by
  unfold RX12_place_287
  refine pw_aloadn (aX12_place 156 rfl) rfl ?_
  refine pw_getr (v := .int (FI 121 73)) (aX12_place 157 rfl) uf_RX12_493 un_RX12_493 rfl ?_
  refine pw_sipush (v := (4000 : Int32)) (aX12_place 158 rfl) rfl ?_
  refine pw_icgt (tgt := 304) (aX12_place 159 rfl) (by decide) (fun b0 => ?_) (fun b0 => ?_)
  · skip
    exact pw_vret (aX12_place 165 rfl) hok
  · skip
    refine pw_aloadn (aX12_place 160 rfl) rfl ?_
    refine pw_getr (v := .ref (base + 154)) (aX12_place 161 rfl) uf_RX12_120 un_RX12_120 (congrArg (fun r => va_rf (h_rf base r)) (q121_72 (hok).2.1)) ?_
    refine pw_iloadn (aX12_place 162 rfl) rfl ?_
    refine pw_iloadn (aX12_place 163 rfl) rfl ?_
    refine pw_iastr (c := 154) (ix := (l2i).toInt.toNat) (aX12_place 164 rfl) rfl (fun _ => ?_)
    exact pw_vret (aX12_place 165 rfl) hok
def BX12_place_200 (K200 : Int32 → Int32 → Nat → Nat → (Nat → Nat × Nat) → (Nat → Nat → Int32) → (Nat → Nat → Int64) → (Nat → Nat → Option Nat) → Unit → hS → Prop)  (l2i : Int32) (l3i : Int32) (n sl : Nat) (SH : Nat → Nat × Nat) (FI : Nat → Nat → Int32) (FL : Nat → Nat → Int64) (FR : Nat → Nat → Option Nat) : Unit → hS → Prop := (P_if ((FI 121 69).toInt = 0) (P_and (p_in (FI 121 68) (SH 149).2) (P_if ((FI 149 (FI 121 68).toInt.toNat).toInt = ((3 : Int32)).toInt) (P_and (p_in (FI 121 68) (SH 150).2) (P_if (((255 : Int64)).toInt < (FL 150 (FI 121 68).toInt.toNat).toInt) (P_bi (RX12_fail ((3 : Int32)) n sl SH FI FL FR) (fun v3 n3 sl3 SH3 FI3 FL3 FR3 => (RX12_place_256 K200  (l2i) (l3i) n3 sl3 SH3 FI3 FL3 FR3))) (P_if ((l3i).toInt = ((64 : Int32)).toInt) (P_bi (RX12_fail ((6 : Int32)) n sl SH FI FL FR) (fun v5 n5 sl5 SH5 FI5 FL5 FR5 => (RX12_place_256 K200  (l2i) (l3i) n5 sl5 SH5 FI5 FL5 FR5))) (RX12_place_256 K200  (l2i) (l3i) n sl SH FI FL FR)))) (RX12_place_287   (l2i) (l3i) n sl SH FI FL FR))) (RX12_place_287   (l2i) (l3i) n sl SH FI FL FR))
set_option maxHeartbeats 4000000 in
set_option maxRecDepth 100000 in
theorem bX12_place_200 {sk : xK} {base N d : Nat} {K200 : Int32 → Int32 → Nat → Nat → (Nat → Nat × Nat) → (Nat → Nat → Int32) → (Nat → Nat → Int64) → (Nat → Nat → Option Nat) → Unit → hS → Prop} (hkb : x_kb sk base)  (l2i : Int32) (l3i : Int32) (l1i : Int32) (n sl : Nat) (SH : Nat → Nat × Nat) (FI : Nat → Nat → Int32) (FL : Nat → Nat → Int64) (FR : Nat → Nat → Option Nat) (hok : pk n SH FR)  (hK200 : ∀ (l2i : Int32) (l3i : Int32) (l1i : Int32) (n sl : Nat) (SH : Nat → Nat × Nat) (FI : Nat → Nat → Int32) (FL : Nat → Nat → Int64) (FR : Nat → Nat → Option Nat), pk n SH FR → pw pj_V sk base N d none 230 200 [(0, .ref (base + 121)), (1, .int (l1i)), (2, .int (l2i)), (3, .int (l3i))] [] (n, sl, SH, FI, FL, FR) (K200 l2i l3i n sl SH FI FL FR)) : pw pj_V sk base (N + 1) d none 230 200 [(0, .ref (base + 121)), (1, .int (l1i)), (2, .int (l2i)), (3, .int (l3i))] [] (n, sl, SH, FI, FL, FR) (BX12_place_200 K200  l2i l3i n sl SH FI FL FR) := by
  unfold BX12_place_200
  refine pd_aloadn (aX12_place 109 rfl) rfl ?_
  refine pw_getr (v := .int (FI 121 69)) (aX12_place 110 rfl) uf_RX12_475 un_RX12_475 rfl ?_
  refine pw_ifne (tgt := 287) (aX12_place 111 rfl) (by decide) (fun b0 => ?_) (fun b0 => ?_)
  · skip
    refine pw_aloadn (aX12_place 112 rfl) rfl ?_
    refine pw_getr (v := .ref (base + 149)) (aX12_place 113 rfl) uf_RX12_105 un_RX12_105 (congrArg (fun r => va_rf (h_rf base r)) (q121_62 (hok).2.1)) ?_
    refine pw_aloadn (aX12_place 114 rfl) rfl ?_
    refine pw_getr (v := .int (FI 121 68)) (aX12_place 115 rfl) uf_RX12_478 un_RX12_478 rfl ?_
    refine pw_ialdr (c := 149) (ix := (FI 121 68).toInt.toNat) (aX12_place 116 rfl) rfl (fun _ => ?_)
    refine pw_iconst (v := (3 : Int32)) (aX12_place 117 rfl) rfl ?_
    refine pw_icne (tgt := 287) (aX12_place 118 rfl) (by decide) (fun b1 => ?_) (fun b1 => ?_)
    · skip
      refine pw_aloadn (aX12_place 119 rfl) rfl ?_
      refine pw_getr (v := .ref (base + 150)) (aX12_place 120 rfl) uf_RX12_108 un_RX12_108 (congrArg (fun r => va_rf (h_rf base r)) (q121_63 (hok).2.1)) ?_
      refine pw_aloadn (aX12_place 121 rfl) rfl ?_
      refine pw_getr (v := .int (FI 121 68)) (aX12_place 122 rfl) uf_RX12_478 un_RX12_478 rfl ?_
      refine pw_laldr (c := 150) (ix := (FI 121 68).toInt.toNat) (aX12_place 123 rfl) rfl (fun _ => ?_)
      refine pw_ldc2 (v := (255 : Int64)) (aX12_place 124 rfl) uk_RX12_503 ?_
      refine pw_lcle (tgt := 244) (aX12_place 125 rfl) (aX12_place 126 rfl) (by decide) (fun b2 => ?_) (fun b2 => ?_)
      · skip
        refine pw_aloadn (aX12_place 127 rfl) rfl ?_
        refine pw_iconst (v := (3 : Int32)) (aX12_place 128 rfl) rfl ?_
        refine pw_callV (Bs := [.int ((3 : Int32))]) (rest := []) (aX12_place 129 rfl) um_RX12_487 ujX12_fail wc_RX12_487.2.2.2.2 (by decide) (by decide) rfl rfl (fun d => rX12_fail hkb ((3 : Int32)) n sl SH FI FL FR hok) (fun v3 n3 sl3 SH3 FI3 FL3 FR3 hok3 _ => ?_)
        show pw _ _ _ _ _ _ _ 241 _ [] _ _
        refine pw_goto (tgt := 256) (aX12_place 130 rfl) (by decide) ?_
        exact pw_Li (L2 := [(0, .ref (base + 121)), (1, .int (l1i)), (2, .int (l2i)), (3, .int (l3i))]) [0, 1, 2, 3] (rX12_place_256 hkb  (l2i) (l3i) (l1i) n3 sl3 SH3 FI3 FL3 FR3 hok3  hK200) ⟨rfl, rfl, rfl, rfl, trivial⟩
      · skip
        refine pw_iloadn (aX12_place 131 rfl) rfl ?_
        refine pw_bipush (v := (64 : Int32)) (aX12_place 132 rfl) rfl ?_
        refine pw_icne (tgt := 256) (aX12_place 133 rfl) (by decide) (fun b4 => ?_) (fun b4 => ?_)
        · skip
          refine pw_aloadn (aX12_place 134 rfl) rfl ?_
          refine pw_bipush (v := (6 : Int32)) (aX12_place 135 rfl) rfl ?_
          refine pw_callV (Bs := [.int ((6 : Int32))]) (rest := []) (aX12_place 136 rfl) um_RX12_487 ujX12_fail wc_RX12_487.2.2.2.2 (by decide) (by decide) rfl rfl (fun d => rX12_fail hkb ((6 : Int32)) n sl SH FI FL FR hok) (fun v5 n5 sl5 SH5 FI5 FL5 FR5 hok5 _ => ?_)
          show pw _ _ _ _ _ _ _ 256 _ [] _ _
          exact pw_Li (L2 := [(0, .ref (base + 121)), (1, .int (l1i)), (2, .int (l2i)), (3, .int (l3i))]) [0, 1, 2, 3] (rX12_place_256 hkb  (l2i) (l3i) (l1i) n5 sl5 SH5 FI5 FL5 FR5 hok5  hK200) ⟨rfl, rfl, rfl, rfl, trivial⟩
        · skip
          exact pw_Li (L2 := [(0, .ref (base + 121)), (1, .int (l1i)), (2, .int (l2i)), (3, .int (l3i))]) [0, 1, 2, 3] (rX12_place_256 hkb  (l2i) (l3i) (l1i) n sl SH FI FL FR hok  hK200) ⟨rfl, rfl, rfl, rfl, trivial⟩
    · skip
      exact pw_Li (L2 := [(0, .ref (base + 121)), (1, .int (l1i)), (2, .int (l2i)), (3, .int (l3i))]) [0, 1, 2, 3] (rX12_place_287 hkb  (l2i) (l3i) (l1i) n sl SH FI FL FR hok  ) ⟨rfl, rfl, rfl, rfl, trivial⟩
  · skip
    exact pw_Li (L2 := [(0, .ref (base + 121)), (1, .int (l1i)), (2, .int (l2i)), (3, .int (l3i))]) [0, 1, 2, 3] (rX12_place_287 hkb  (l2i) (l3i) (l1i) n sl SH FI FL FR hok  ) ⟨rfl, rfl, rfl, rfl, trivial⟩
def GX12_place_200   : Nat → Int32 → Int32 → Nat → Nat → (Nat → Nat × Nat) → (Nat → Nat → Int32) → (Nat → Nat → Int64) → (Nat → Nat → Option Nat) → Unit → hS → Prop
  | 0, _, _, _, _, _, _, _, _ => fun _ _ => False
  | g + 1, l2i, l3i, n, sl, SH, FI, FL, FR => BX12_place_200  (GX12_place_200   g)  l2i l3i n sl SH FI FL FR
def RX12_place_200   (l2i : Int32) (l3i : Int32) (n sl : Nat) (SH : Nat → Nat × Nat) (FI : Nat → Nat → Int32) (FL : Nat → Nat → Int64) (FR : Nat → Nat → Option Nat) : Unit → hS → Prop := fun v s => ∃ g, GX12_place_200   g l2i l3i n sl SH FI FL FR v s
theorem gX12_place_200 {sk : xK} {base d : Nat}  (hkb : x_kb sk base)  (N : Nat) :  ∀ (l2i : Int32) (l3i : Int32) (l1i : Int32) (n sl : Nat) (SH : Nat → Nat × Nat) (FI : Nat → Nat → Int32) (FL : Nat → Nat → Int64) (FR : Nat → Nat → Option Nat), pk n SH FR → pw pj_V sk base N d none 230 200 [(0, .ref (base + 121)), (1, .int (l1i)), (2, .int (l2i)), (3, .int (l3i))] [] (n, sl, SH, FI, FL, FR) (GX12_place_200   (N + 1) l2i l3i n sl SH FI FL FR) := by
  induction N with
  | zero => intros; exact pw_0
  | succ N ih => intro   l2i l3i l1i n sl SH FI FL FR hok; exact bX12_place_200 hkb  l2i l3i l1i n sl SH FI FL FR hok  (ih  )
theorem rX12_place_200 {sk : xK} {base N d : Nat}  (hkb : x_kb sk base)  (l2i : Int32) (l3i : Int32) (l1i : Int32) (n sl : Nat) (SH : Nat → Nat × Nat) (FI : Nat → Nat → Int32) (FL : Nat → Nat → Int64) (FR : Nat → Nat → Option Nat) (hok : pk n SH FR)   : pw pj_V sk base N d none 230 200 [(0, .ref (base + 121)), (1, .int (l1i)), (2, .int (l2i)), (3, .int (l3i))] [] (n, sl, SH, FI, FL, FR) (RX12_place_200   l2i l3i n sl SH FI FL FR) := pw_cons (gX12_place_200 hkb  N   l2i l3i l1i n sl SH FI FL FR hok) (fun _ _ h => ⟨_, h⟩)
def RX12_place_181    (n sl : Nat) (SH : Nat → Nat × Nat) (FI : Nat → Nat → Int32) (FL : Nat → Nat → Int64) (FR : Nat → Nat → Option Nat) : Unit → hS → Prop := (P_bi (RX12_emit ((158 : Int32)) n sl SH FI FL FR) (fun v0 n0 sl0 SH0 FI0 FL0 FR0 => (P_bi (RX12_emit ((0 : Int32)) n0 sl0 SH0 FI0 FL0 FR0) (fun v1 n1 sl1 SH1 FI1 FL1 FR1 => (RX12_place_200   (FI0 121 73) ((0 : Int32)) n1 sl1 SH1 FI1 FL1 FR1)))))
set_option maxHeartbeats 4000000 in
set_option maxRecDepth 100000 in
theorem rX12_place_181 {sk : xK} {base N d : Nat}  (hkb : x_kb sk base)   (l1i : Int32) (n sl : Nat) (SH : Nat → Nat × Nat) (FI : Nat → Nat → Int32) (FL : Nat → Nat → Int64) (FR : Nat → Nat → Option Nat) (hok : pk n SH FR)   : pw pj_V sk base N d none 230 181 [(0, .ref (base + 121)), (1, .int (l1i))] [] (n, sl, SH, FI, FL, FR) (RX12_place_181    n sl SH FI FL FR) := by
  unfold RX12_place_181
  refine pw_aloadn (aX12_place 98 rfl) rfl ?_
  refine pw_sipush (v := (158 : Int32)) (aX12_place 99 rfl) rfl ?_
  refine pw_callV (Bs := [.int ((158 : Int32))]) (rest := []) (aX12_place 100 rfl) um_RX12_496 ujX12_emit wc_RX12_496.2.2.2.2 (by decide) (by decide) rfl rfl (fun d => rX12_emit hkb ((158 : Int32)) n sl SH FI FL FR hok) (fun v0 n0 sl0 SH0 FI0 FL0 FR0 hok0 _ => ?_)
  show pw _ _ _ _ _ _ _ 188 _ [] _ _
  refine pw_aloadn (aX12_place 101 rfl) rfl ?_
  refine pw_getr (v := .int (FI0 121 73)) (aX12_place 102 rfl) uf_RX12_493 un_RX12_493 rfl ?_
  refine pw_istoren (L2 := [(2, .int (FI0 121 73)), (0, .ref (base + 121)), (1, .int (l1i))]) (aX12_place 103 rfl) rfl ?_
  refine pw_aloadn (aX12_place 104 rfl) rfl ?_
  refine pw_iconst (v := (0 : Int32)) (aX12_place 105 rfl) rfl ?_
  refine pw_callV (Bs := [.int ((0 : Int32))]) (rest := []) (aX12_place 106 rfl) um_RX12_496 ujX12_emit wc_RX12_496.2.2.2.2 (by decide) (by decide) rfl rfl (fun d => rX12_emit hkb ((0 : Int32)) n0 sl0 SH0 FI0 FL0 FR0 hok0) (fun v1 n1 sl1 SH1 FI1 FL1 FR1 hok1 _ => ?_)
  show pw _ _ _ _ _ _ _ 198 _ [] _ _
  refine pw_iconst (v := (0 : Int32)) (aX12_place 107 rfl) rfl ?_
  refine pw_istoren (L2 := [(3, .int ((0 : Int32))), (2, .int (FI0 121 73)), (0, .ref (base + 121)), (1, .int (l1i))]) (aX12_place 108 rfl) rfl ?_
  exact pw_Li (L2 := [(0, .ref (base + 121)), (1, .int (l1i)), (2, .int (FI0 121 73)), (3, .int ((0 : Int32)))]) [3, 2, 0, 1] (rX12_place_200 hkb  (FI0 121 73) ((0 : Int32)) (l1i) n1 sl1 SH1 FI1 FL1 FR1 hok1  ) ⟨rfl, rfl, rfl, rfl, trivial⟩
def RX12_place  (n sl : Nat) (SH : Nat → Nat × Nat) (FI : Nat → Nat → Int32) (FL : Nat → Nat → Int64) (FR : Nat → Nat → Option Nat) : Unit → hS → Prop := (P_if ((fX12_isSign ((91 : Int32)) SH FI FL FR).toInt = 0) (P_and (p_in (FI 121 68) (SH 150).2) (P_if (((FL 150 (FI 121 68).toInt.toNat).toInt32).toInt = 0) (P_and (p_in ((FI 121 68) + ((1 : Int32))) (SH 149).2) (P_if ((FI 149 ((FI 121 68) + ((1 : Int32))).toInt.toNat).toInt = ((3 : Int32)).toInt) (P_and (p_in ((FI 121 68) + ((1 : Int32))) (SH 150).2) (P_if (((31 : Int64)).toInt < (FL 150 ((FI 121 68) + ((1 : Int32))).toInt.toNat).toInt) (P_bi (RX12_fail ((2 : Int32)) n sl SH (h_up FI 121 68 ((FI 121 68) + ((1 : Int32)))) FL FR) (fun v6 n6 sl6 SH6 FI6 FL6 FR6 => (RX12_place_101    n6 sl6 SH6 FI6 FL6 FR6))) (RX12_place_101    n sl SH (h_up FI 121 68 ((FI 121 68) + ((1 : Int32)))) FL FR))) (P_bi (RX12_fail ((1 : Int32)) n sl SH (h_up FI 121 68 ((FI 121 68) + ((1 : Int32)))) FL FR) (fun v7 n7 sl7 SH7 FI7 FL7 FR7 => (RX12_place_101    n7 sl7 SH7 FI7 FL7 FR7))))) (P_if (((FL 150 (FI 121 68).toInt.toNat).toInt32).toInt = ((1 : Int32)).toInt) (P_bi (RX12_chosen  n sl SH (h_up FI 121 68 ((FI 121 68) + ((1 : Int32)))) FL FR) (fun v9 n9 sl9 SH9 FI9 FL9 FR9 => (P_bi (RX12_emit ((159 : Int32)) n9 sl9 SH9 FI9 FL9 FR9) (fun v10 n10 sl10 SH10 FI10 FL10 FR10 => (P_ret () (n10, sl10, SH10, FI10, FL10, FR10)))))) (P_if (((FL 150 (FI 121 68).toInt.toNat).toInt32).toInt = ((2 : Int32)).toInt) (P_and (p_in ((FI 121 68) + ((1 : Int32))) (SH 149).2) (P_if ((FI 149 ((FI 121 68) + ((1 : Int32))).toInt.toNat).toInt = ((3 : Int32)).toInt) (RX12_place_181    n sl SH (h_up FI 121 68 ((FI 121 68) + ((1 : Int32)))) FL FR) (P_bi (RX12_fail ((1 : Int32)) n sl SH (h_up FI 121 68 ((FI 121 68) + ((1 : Int32)))) FL FR) (fun v13 n13 sl13 SH13 FI13 FL13 FR13 => (RX12_place_181    n13 sl13 SH13 FI13 FL13 FR13))))) (P_ret () (n, sl, SH, (h_up FI 121 68 ((FI 121 68) + ((1 : Int32)))), FL, FR)))))) (P_bi (RX12_opens  n sl SH FI FL FR) (fun v14 n14 sl14 SH14 FI14 FL14 FR14 => (P_bi (RX12_chosen  n14 sl14 SH14 FI14 FL14 FR14) (fun v15 n15 sl15 SH15 FI15 FL15 FR15 => (P_bi (RX12_need ((93 : Int32)) n15 sl15 SH15 FI15 FL15 FR15) (fun v16 n16 sl16 SH16 FI16 FL16 FR16 => (P_ret () (n16, sl16, SH16, (h_up FI16 121 71 ((FI16 121 71) - ((1 : Int32)))), FL16, FR16)))))))))
set_option maxHeartbeats 4000000 in
set_option maxRecDepth 100000 in
theorem rX12_place {sk : xK} {base N d : Nat} (hkb : x_kb sk base)  (n sl : Nat) (SH : Nat → Nat × Nat) (FI : Nat → Nat → Int32) (FL : Nat → Nat → Int64) (FR : Nat → Nat → Option Nat) (hok : pk n SH FR)  : pw pj_V sk base N d none 230 0 [(0, .ref (base + 121))] [] (n, sl, SH, FI, FL, FR) (RX12_place  n sl SH FI FL FR) := by
  unfold RX12_place
  refine pw_aloadn (aX12_place 0 rfl) rfl ?_
  refine pw_bipush (v := (91 : Int32)) (aX12_place 1 rfl) rfl ?_
  refine pw_cf (pw_callV (Bs := [.int ((91 : Int32))]) (rest := []) (aX12_place 2 rfl) um_RX12_484 ujX12_isSign wc_RX12_484.2.2.2.2 (by decide) (by decide) rfl rfl (fun d => rX12_isSign hkb ((91 : Int32)) n sl SH FI FL FR hok) (fun v0 n0 sl0 SH0 FI0 FL0 FR0 _ hC => ?_))
  obtain ⟨rfl, hC⟩ := hC; cases hC
  show pw _ _ _ _ _ _ _ 6 _ [.int (fX12_isSign ((91 : Int32)) SH FI FL FR)] _ _
  refine pw_ifeq (tgt := 34) (aX12_place 3 rfl) (by decide) (fun b1 => ?_) (fun b1 => ?_)
  · skip
    refine pw_aloadn (aX12_place 18 rfl) rfl ?_
    refine pw_getr (v := .ref (base + 150)) (aX12_place 19 rfl) uf_RX12_108 un_RX12_108 (congrArg (fun r => va_rf (h_rf base r)) (q121_63 (hok).2.1)) ?_
    refine pw_aloadn (aX12_place 20 rfl) rfl ?_
    refine pw_getr (v := .int (FI 121 68)) (aX12_place 21 rfl) uf_RX12_478 un_RX12_478 rfl ?_
    refine pw_laldr (c := 150) (ix := (FI 121 68).toInt.toNat) (aX12_place 22 rfl) rfl (fun _ => ?_)
    refine pw_l2i (aX12_place 23 rfl) ?_
    refine pw_istoren (L2 := [(1, .int ((FL 150 (FI 121 68).toInt.toNat).toInt32)), (0, .ref (base + 121))]) (aX12_place 24 rfl) rfl ?_
    refine pw_aloadn (aX12_place 25 rfl) rfl ?_
    refine pw_aloadn (aX12_place 26 rfl) rfl ?_
    refine pw_getr (v := .int (FI 121 68)) (aX12_place 27 rfl) uf_RX12_478 un_RX12_478 rfl ?_
    refine pw_iconst (v := (1 : Int32)) (aX12_place 28 rfl) rfl ?_
    refine pw_iadd (aX12_place 29 rfl) ?_
    refine pw_putri (aX12_place 30 rfl) uf_RX12_478 (fun _ _ _ => rfl) (fun t3 => ?_)
    refine pw_iloadn (aX12_place 31 rfl) rfl ?_
    refine pw_ifne (tgt := 139) (aX12_place 32 rfl) (by decide) (fun b3 => ?_) (fun b3 => ?_)
    · skip
      refine pw_aloadn (aX12_place 33 rfl) rfl ?_
      refine pw_getr (v := .ref (base + 149)) (aX12_place 34 rfl) uf_RX12_105 un_RX12_105 (congrArg (fun r => va_rf (h_rf base r)) (q121_62 (hok).2.1)) ?_
      refine pw_aloadn (aX12_place 35 rfl) rfl ?_
      refine pw_getr (v := .int ((FI 121 68) + ((1 : Int32)))) (aX12_place 36 rfl) uf_RX12_478 un_RX12_478 rfl ?_
      refine pw_ialdr (c := 149) (ix := ((FI 121 68) + ((1 : Int32))).toInt.toNat) (aX12_place 37 rfl) rfl (fun _ => ?_)
      refine pw_iconst (v := (3 : Int32)) (aX12_place 38 rfl) rfl ?_
      refine pw_iceq (tgt := 80) (aX12_place 39 rfl) (by decide) (fun b4 => ?_) (fun b4 => ?_)
      · skip
        refine pw_aloadn (aX12_place 44 rfl) rfl ?_
        refine pw_getr (v := .ref (base + 150)) (aX12_place 45 rfl) uf_RX12_108 un_RX12_108 (congrArg (fun r => va_rf (h_rf base r)) (q121_63 (hok).2.1)) ?_
        refine pw_aloadn (aX12_place 46 rfl) rfl ?_
        refine pw_getr (v := .int ((FI 121 68) + ((1 : Int32)))) (aX12_place 47 rfl) uf_RX12_478 un_RX12_478 rfl ?_
        refine pw_laldr (c := 150) (ix := ((FI 121 68) + ((1 : Int32))).toInt.toNat) (aX12_place 48 rfl) rfl (fun _ => ?_)
        refine pw_ldc2 (v := (31 : Int64)) (aX12_place 49 rfl) uk_RX12_310 ?_
        refine pw_lcle (tgt := 101) (aX12_place 50 rfl) (aX12_place 51 rfl) (by decide) (fun b5 => ?_) (fun b5 => ?_)
        · skip
          refine pw_aloadn (aX12_place 52 rfl) rfl ?_
          refine pw_iconst (v := (2 : Int32)) (aX12_place 53 rfl) rfl ?_
          refine pw_callV (Bs := [.int ((2 : Int32))]) (rest := []) (aX12_place 54 rfl) um_RX12_487 ujX12_fail wc_RX12_487.2.2.2.2 (by decide) (by decide) rfl rfl (fun d => rX12_fail hkb ((2 : Int32)) n sl SH (h_up FI 121 68 ((FI 121 68) + ((1 : Int32)))) FL FR hok) (fun v6 n6 sl6 SH6 FI6 FL6 FR6 hok6 _ => ?_)
          show pw _ _ _ _ _ _ _ 101 _ [] _ _
          exact pw_Li (L2 := [(0, .ref (base + 121)), (1, .int ((FL 150 (FI 121 68).toInt.toNat).toInt32))]) [1, 0] (rX12_place_101 hkb  ((FL 150 (FI 121 68).toInt.toNat).toInt32) n6 sl6 SH6 FI6 FL6 FR6 hok6  ) ⟨rfl, rfl, trivial⟩
        · skip
          exact pw_Li (L2 := [(0, .ref (base + 121)), (1, .int ((FL 150 (FI 121 68).toInt.toNat).toInt32))]) [1, 0] (rX12_place_101 hkb  ((FL 150 (FI 121 68).toInt.toNat).toInt32) n sl SH (h_up FI 121 68 ((FI 121 68) + ((1 : Int32)))) FL FR hok  ) ⟨rfl, rfl, trivial⟩
      · skip
        refine pw_aloadn (aX12_place 40 rfl) rfl ?_
        refine pw_iconst (v := (1 : Int32)) (aX12_place 41 rfl) rfl ?_
        refine pw_callV (Bs := [.int ((1 : Int32))]) (rest := []) (aX12_place 42 rfl) um_RX12_487 ujX12_fail wc_RX12_487.2.2.2.2 (by decide) (by decide) rfl rfl (fun d => rX12_fail hkb ((1 : Int32)) n sl SH (h_up FI 121 68 ((FI 121 68) + ((1 : Int32)))) FL FR hok) (fun v7 n7 sl7 SH7 FI7 FL7 FR7 hok7 _ => ?_)
        show pw _ _ _ _ _ _ _ 77 _ [] _ _
        refine pw_goto (tgt := 101) (aX12_place 43 rfl) (by decide) ?_
        exact pw_Li (L2 := [(0, .ref (base + 121)), (1, .int ((FL 150 (FI 121 68).toInt.toNat).toInt32))]) [1, 0] (rX12_place_101 hkb  ((FL 150 (FI 121 68).toInt.toNat).toInt32) n7 sl7 SH7 FI7 FL7 FR7 hok7  ) ⟨rfl, rfl, trivial⟩
    · skip
      refine pw_iloadn (aX12_place 76 rfl) rfl ?_
      refine pw_iconst (v := (1 : Int32)) (aX12_place 77 rfl) rfl ?_
      refine pw_icne (tgt := 158) (aX12_place 78 rfl) (by decide) (fun b8 => ?_) (fun b8 => ?_)
      · skip
        refine pw_aloadn (aX12_place 79 rfl) rfl ?_
        refine pw_callV (Bs := []) (rest := []) (aX12_place 80 rfl) um_RX12_553 ujX12_chosen wc_RX12_553.2.2.2.2 (by decide) (by decide) rfl rfl (fun d => rX12_chosen hkb  n sl SH (h_up FI 121 68 ((FI 121 68) + ((1 : Int32)))) FL FR hok) (fun v9 n9 sl9 SH9 FI9 FL9 FR9 hok9 _ => ?_)
        show pw _ _ _ _ _ _ _ 148 _ [] _ _
        refine pw_aloadn (aX12_place 81 rfl) rfl ?_
        refine pw_sipush (v := (159 : Int32)) (aX12_place 82 rfl) rfl ?_
        refine pw_callV (Bs := [.int ((159 : Int32))]) (rest := []) (aX12_place 83 rfl) um_RX12_496 ujX12_emit wc_RX12_496.2.2.2.2 (by decide) (by decide) rfl rfl (fun d => rX12_emit hkb ((159 : Int32)) n9 sl9 SH9 FI9 FL9 FR9 hok9) (fun v10 n10 sl10 SH10 FI10 FL10 FR10 hok10 _ => ?_)
        show pw _ _ _ _ _ _ _ 155 _ [] _ _
        refine pw_goto (tgt := 304) (aX12_place 84 rfl) (by decide) ?_
        exact pw_vret (aX12_place 165 rfl) hok10
      · skip
        refine pw_iloadn (aX12_place 85 rfl) rfl ?_
        refine pw_iconst (v := (2 : Int32)) (aX12_place 86 rfl) rfl ?_
        refine pw_icne (tgt := 304) (aX12_place 87 rfl) (by decide) (fun b11 => ?_) (fun b11 => ?_)
        · skip
          refine pw_aloadn (aX12_place 88 rfl) rfl ?_
          refine pw_getr (v := .ref (base + 149)) (aX12_place 89 rfl) uf_RX12_105 un_RX12_105 (congrArg (fun r => va_rf (h_rf base r)) (q121_62 (hok).2.1)) ?_
          refine pw_aloadn (aX12_place 90 rfl) rfl ?_
          refine pw_getr (v := .int ((FI 121 68) + ((1 : Int32)))) (aX12_place 91 rfl) uf_RX12_478 un_RX12_478 rfl ?_
          refine pw_ialdr (c := 149) (ix := ((FI 121 68) + ((1 : Int32))).toInt.toNat) (aX12_place 92 rfl) rfl (fun _ => ?_)
          refine pw_iconst (v := (3 : Int32)) (aX12_place 93 rfl) rfl ?_
          refine pw_iceq (tgt := 181) (aX12_place 94 rfl) (by decide) (fun b12 => ?_) (fun b12 => ?_)
          · skip
            exact pw_Li (L2 := [(0, .ref (base + 121)), (1, .int ((FL 150 (FI 121 68).toInt.toNat).toInt32))]) [1, 0] (rX12_place_181 hkb  ((FL 150 (FI 121 68).toInt.toNat).toInt32) n sl SH (h_up FI 121 68 ((FI 121 68) + ((1 : Int32)))) FL FR hok  ) ⟨rfl, rfl, trivial⟩
          · skip
            refine pw_aloadn (aX12_place 95 rfl) rfl ?_
            refine pw_iconst (v := (1 : Int32)) (aX12_place 96 rfl) rfl ?_
            refine pw_callV (Bs := [.int ((1 : Int32))]) (rest := []) (aX12_place 97 rfl) um_RX12_487 ujX12_fail wc_RX12_487.2.2.2.2 (by decide) (by decide) rfl rfl (fun d => rX12_fail hkb ((1 : Int32)) n sl SH (h_up FI 121 68 ((FI 121 68) + ((1 : Int32)))) FL FR hok) (fun v13 n13 sl13 SH13 FI13 FL13 FR13 hok13 _ => ?_)
            show pw _ _ _ _ _ _ _ 181 _ [] _ _
            exact pw_Li (L2 := [(0, .ref (base + 121)), (1, .int ((FL 150 (FI 121 68).toInt.toNat).toInt32))]) [1, 0] (rX12_place_181 hkb  ((FL 150 (FI 121 68).toInt.toNat).toInt32) n13 sl13 SH13 FI13 FL13 FR13 hok13  ) ⟨rfl, rfl, trivial⟩
        · skip
          exact pw_vret (aX12_place 165 rfl) hok
  · skip
    refine pw_aloadn (aX12_place 4 rfl) rfl ?_
    refine pw_callV (Bs := []) (rest := []) (aX12_place 5 rfl) um_RX12_538 ujX12_opens wc_RX12_538.2.2.2.2 (by decide) (by decide) rfl rfl (fun d => rX12_opens hkb  n sl SH FI FL FR hok) (fun v14 n14 sl14 SH14 FI14 FL14 FR14 hok14 _ => ?_)
    show pw _ _ _ _ _ _ _ 13 _ [] _ _
    refine pw_aloadn (aX12_place 6 rfl) rfl ?_
    refine pw_callV (Bs := []) (rest := []) (aX12_place 7 rfl) um_RX12_553 ujX12_chosen wc_RX12_553.2.2.2.2 (by decide) (by decide) rfl rfl (fun d => rX12_chosen hkb  n14 sl14 SH14 FI14 FL14 FR14 hok14) (fun v15 n15 sl15 SH15 FI15 FL15 FR15 hok15 _ => ?_)
    show pw _ _ _ _ _ _ _ 17 _ [] _ _
    refine pw_aloadn (aX12_place 8 rfl) rfl ?_
    refine pw_bipush (v := (93 : Int32)) (aX12_place 9 rfl) rfl ?_
    refine pw_callV (Bs := [.int ((93 : Int32))]) (rest := []) (aX12_place 10 rfl) um_RX12_527 ujX12_need wc_RX12_527.2.2.2.2 (by decide) (by decide) rfl rfl (fun d => rX12_need hkb ((93 : Int32)) n15 sl15 SH15 FI15 FL15 FR15 hok15) (fun v16 n16 sl16 SH16 FI16 FL16 FR16 hok16 _ => ?_)
    show pw _ _ _ _ _ _ _ 23 _ [] _ _
    refine pw_aloadn (aX12_place 11 rfl) rfl ?_
    refine pw_aloadn (aX12_place 12 rfl) rfl ?_
    refine pw_getr (v := .int (FI16 121 71)) (aX12_place 13 rfl) uf_RX12_490 un_RX12_490 rfl ?_
    refine pw_iconst (v := (1 : Int32)) (aX12_place 14 rfl) rfl ?_
    refine pw_isub (aX12_place 15 rfl) ?_
    refine pw_putri (aX12_place 16 rfl) uf_RX12_490 (fun _ _ _ => rfl) (fun t18 => ?_)
    exact pw_vret (aX12_place 17 rfl) hok16
def RX12_location_235   (l1i : Int32) (n sl : Nat) (SH : Nat → Nat × Nat) (FI : Nat → Nat → Int32) (FL : Nat → Nat → Int64) (FR : Nat → Nat → Option Nat) : Unit → hS → Prop := (P_if (((300 : Int32)).toInt < ((FI 121 73) - (l1i)).toInt) (P_and (p_in (FI 121 78) (SH 163).2) (P_ret () (n, sl, SH, (h_up FI 163 (FI 121 78).toInt.toNat (vp_nar .boolean ((1 : Int32)))), FL, FR))) (P_ret () (n, sl, SH, FI, FL, FR)))
set_option maxHeartbeats 4000000 in
set_option maxRecDepth 100000 in
theorem rX12_location_235 {sk : xK} {base N d : Nat}  (hkb : x_kb sk base)  (l1i : Int32) (l2i : Int32) (l3i : Int32) (n sl : Nat) (SH : Nat → Nat × Nat) (FI : Nat → Nat → Int32) (FL : Nat → Nat → Int64) (FR : Nat → Nat → Option Nat) (hok : pk n SH FR)   : pw pj_V sk base N d none 229 235 [(0, .ref (base + 121)), (1, .int (l1i)), (2, .int (l2i)), (3, .int (l3i))] [] (n, sl, SH, FI, FL, FR) (RX12_location_235   l1i n sl SH FI FL FR) := by
  unfold RX12_location_235
  refine pw_aloadn (aX12_location 123 rfl) rfl ?_
  refine pw_getr (v := .int (FI 121 73)) (aX12_location 124 rfl) uf_RX12_493 un_RX12_493 rfl ?_
  refine pw_iloadn (aX12_location 125 rfl) rfl ?_
  refine pw_isub (aX12_location 126 rfl) ?_
  refine pw_sipush (v := (300 : Int32)) (aX12_location 127 rfl) rfl ?_
  refine pw_icle (tgt := 257) (aX12_location 128 rfl) (by decide) (fun b0 => ?_) (fun b0 => ?_)
  · skip
    refine pw_aloadn (aX12_location 129 rfl) rfl ?_
    refine pw_getr (v := .ref (base + 163)) (aX12_location 130 rfl) uf_RX12_147 un_RX12_147 (congrArg (fun r => va_rf (h_rf base r)) (q121_84 (hok).2.1)) ?_
    refine pw_aloadn (aX12_location 131 rfl) rfl ?_
    refine pw_getr (v := .int (FI 121 78)) (aX12_location 132 rfl) uf_RX12_515 un_RX12_515 rfl ?_
    refine pw_iconst (v := (1 : Int32)) (aX12_location 133 rfl) rfl ?_
    refine pw_zastr (c := 163) (ix := (FI 121 78).toInt.toNat) (aX12_location 134 rfl) rfl (fun _ => ?_)
    exact pw_vret (aX12_location 135 rfl) hok
  · skip
    exact pw_vret (aX12_location 135 rfl) hok
def RX12_location_197   (l1i : Int32) (n sl : Nat) (SH : Nat → Nat × Nat) (FI : Nat → Nat → Int32) (FL : Nat → Nat → Int64) (FR : Nat → Nat → Option Nat) : Unit → hS → Prop := (P_bi (RX12_need ((125 : Int32)) n sl SH FI FL FR) (fun v0 n0 sl0 SH0 FI0 FL0 FR0 => (RX12_location_235   (l1i) n0 sl0 SH0 (h_up FI0 121 71 ((FI0 121 71) - ((1 : Int32)))) FL0 FR0)))
set_option maxHeartbeats 4000000 in
set_option maxRecDepth 100000 in
theorem rX12_location_197 {sk : xK} {base N d : Nat}  (hkb : x_kb sk base)  (l1i : Int32) (l2i : Int32) (l3i : Int32) (n sl : Nat) (SH : Nat → Nat × Nat) (FI : Nat → Nat → Int32) (FL : Nat → Nat → Int64) (FR : Nat → Nat → Option Nat) (hok : pk n SH FR)   : pw pj_V sk base N d none 229 197 [(0, .ref (base + 121)), (1, .int (l1i)), (2, .int (l2i)), (3, .int (l3i))] [] (n, sl, SH, FI, FL, FR) (RX12_location_197   l1i n sl SH FI FL FR) := by
  unfold RX12_location_197
  refine pw_aloadn (aX12_location 104 rfl) rfl ?_
  refine pw_bipush (v := (125 : Int32)) (aX12_location 105 rfl) rfl ?_
  refine pw_callV (Bs := [.int ((125 : Int32))]) (rest := []) (aX12_location 106 rfl) um_RX12_527 ujX12_need wc_RX12_527.2.2.2.2 (by decide) (by decide) rfl rfl (fun d => rX12_need hkb ((125 : Int32)) n sl SH FI FL FR hok) (fun v0 n0 sl0 SH0 FI0 FL0 FR0 hok0 _ => ?_)
  show pw _ _ _ _ _ _ _ 203 _ [] _ _
  refine pw_aloadn (aX12_location 107 rfl) rfl ?_
  refine pw_aloadn (aX12_location 108 rfl) rfl ?_
  refine pw_getr (v := .int (FI0 121 71)) (aX12_location 109 rfl) uf_RX12_490 un_RX12_490 rfl ?_
  refine pw_iconst (v := (1 : Int32)) (aX12_location 110 rfl) rfl ?_
  refine pw_isub (aX12_location 111 rfl) ?_
  refine pw_putri (aX12_location 112 rfl) uf_RX12_490 (fun _ _ _ => rfl) (fun t2 => ?_)
  refine pw_goto (tgt := 235) (aX12_location 113 rfl) (by decide) ?_
  exact pw_Li (L2 := [(0, .ref (base + 121)), (1, .int (l1i)), (2, .int (l2i)), (3, .int (l3i))]) [0, 1, 2, 3] (rX12_location_235 hkb  (l1i) (l2i) (l3i) n0 sl0 SH0 (h_up FI0 121 71 ((FI0 121 71) - ((1 : Int32)))) FL0 FR0 hok0  ) ⟨rfl, rfl, rfl, rfl, trivial⟩
def RX12_location_131 (K22 : Int32 → Int32 → Int32 → Nat → Nat → (Nat → Nat × Nat) → (Nat → Nat → Int32) → (Nat → Nat → Int64) → (Nat → Nat → Option Nat) → Unit → hS → Prop)  (l1i : Int32) (l2i : Int32) (n sl : Nat) (SH : Nat → Nat × Nat) (FI : Nat → Nat → Int32) (FL : Nat → Nat → Int64) (FR : Nat → Nat → Option Nat) : Unit → hS → Prop := (P_if ((FI 121 69).toInt = 0) (P_bi (RX12_emit ((147 : Int32)) n sl SH FI FL FR) (fun v1 n1 sl1 SH1 FI1 FL1 FR1 => (P_and (p_in (FI1 121 68) (SH1 150).2) (P_bi (RX12_unsigned (FL1 150 (FI1 121 68).toInt.toNat) n1 sl1 SH1 FI1 FL1 FR1) (fun v2 n2 sl2 SH2 FI2 FL2 FR2 => (P_if ((fX12_isSign ((44 : Int32)) SH2 (h_up FI2 121 68 ((FI2 121 68) + ((1 : Int32)))) FL2 FR2).toInt = 0) (K22 (l1i) ((l2i) + ((1 : Int32))) (fX12_isSign ((44 : Int32)) SH2 (h_up FI2 121 68 ((FI2 121 68) + ((1 : Int32)))) FL2 FR2) n2 sl2 SH2 (h_up FI2 121 68 ((FI2 121 68) + ((1 : Int32)))) FL2 FR2) (K22 (l1i) ((l2i) + ((1 : Int32))) (fX12_isSign ((44 : Int32)) SH2 (h_up FI2 121 68 ((FI2 121 68) + ((1 : Int32)))) FL2 FR2) n2 sl2 SH2 (h_up (h_up FI2 121 68 ((FI2 121 68) + ((1 : Int32)))) 121 68 (((FI2 121 68) + ((1 : Int32))) + ((1 : Int32)))) FL2 FR2))))))) (P_ret () (n, sl, SH, FI, FL, FR)))
set_option maxHeartbeats 4000000 in
set_option maxRecDepth 100000 in
theorem rX12_location_131 {sk : xK} {base N d : Nat} {K22 : Int32 → Int32 → Int32 → Nat → Nat → (Nat → Nat × Nat) → (Nat → Nat → Int32) → (Nat → Nat → Int64) → (Nat → Nat → Option Nat) → Unit → hS → Prop} (hkb : x_kb sk base)  (l1i : Int32) (l2i : Int32) (l3i : Int32) (n sl : Nat) (SH : Nat → Nat × Nat) (FI : Nat → Nat → Int32) (FL : Nat → Nat → Int64) (FR : Nat → Nat → Option Nat) (hok : pk n SH FR)  (hK22 : ∀ (l1i : Int32) (l2i : Int32) (l3i : Int32) (n sl : Nat) (SH : Nat → Nat × Nat) (FI : Nat → Nat → Int32) (FL : Nat → Nat → Int64) (FR : Nat → Nat → Option Nat), pk n SH FR → pw pj_V sk base N d none 229 22 [(0, .ref (base + 121)), (1, .int (l1i)), (2, .int (l2i)), (3, .int (l3i))] [] (n, sl, SH, FI, FL, FR) (K22 l1i l2i l3i n sl SH FI FL FR)) : pw pj_V sk base N d none 229 131 [(0, .ref (base + 121)), (1, .int (l1i)), (2, .int (l2i)), (3, .int (l3i))] [] (n, sl, SH, FI, FL, FR) (RX12_location_131 K22  l1i l2i n sl SH FI FL FR) := by
  unfold RX12_location_131
  refine pw_aloadn (aX12_location 67 rfl) rfl ?_
  refine pw_getr (v := .int (FI 121 69)) (aX12_location 68 rfl) uf_RX12_475 un_RX12_475 rfl ?_
  refine pw_ifeq (tgt := 139) (aX12_location 69 rfl) (by decide) (fun b0 => ?_) (fun b0 => ?_)
  · skip
    refine pw_aloadn (aX12_location 71 rfl) rfl ?_
    refine pw_sipush (v := (147 : Int32)) (aX12_location 72 rfl) rfl ?_
    refine pw_callV (Bs := [.int ((147 : Int32))]) (rest := []) (aX12_location 73 rfl) um_RX12_496 ujX12_emit wc_RX12_496.2.2.2.2 (by decide) (by decide) rfl rfl (fun d => rX12_emit hkb ((147 : Int32)) n sl SH FI FL FR hok) (fun v1 n1 sl1 SH1 FI1 FL1 FR1 hok1 _ => ?_)
    show pw _ _ _ _ _ _ _ 146 _ [] _ _
    refine pw_aloadn (aX12_location 74 rfl) rfl ?_
    refine pw_aloadn (aX12_location 75 rfl) rfl ?_
    refine pw_getr (v := .ref (base + 150)) (aX12_location 76 rfl) uf_RX12_108 un_RX12_108 (congrArg (fun r => va_rf (h_rf base r)) (q121_63 (hok1).2.1)) ?_
    refine pw_aloadn (aX12_location 77 rfl) rfl ?_
    refine pw_getr (v := .int (FI1 121 68)) (aX12_location 78 rfl) uf_RX12_478 un_RX12_478 rfl ?_
    refine pw_laldr (c := 150) (ix := (FI1 121 68).toInt.toNat) (aX12_location 79 rfl) rfl (fun _ => ?_)
    refine pw_callV (Bs := [.long (FL1 150 (FI1 121 68).toInt.toNat)]) (rest := []) (aX12_location 80 rfl) um_RX12_549 ujX12_unsigned wc_RX12_549.2.2.2.2 (by decide) (by decide) rfl rfl (fun d => rX12_unsigned hkb (FL1 150 (FI1 121 68).toInt.toNat) n1 sl1 SH1 FI1 FL1 FR1 hok1) (fun v2 n2 sl2 SH2 FI2 FL2 FR2 hok2 _ => ?_)
    show pw _ _ _ _ _ _ _ 159 _ [] _ _
    refine pw_aloadn (aX12_location 81 rfl) rfl ?_
    refine pw_aloadn (aX12_location 82 rfl) rfl ?_
    refine pw_getr (v := .int (FI2 121 68)) (aX12_location 83 rfl) uf_RX12_478 un_RX12_478 rfl ?_
    refine pw_iconst (v := (1 : Int32)) (aX12_location 84 rfl) rfl ?_
    refine pw_iadd (aX12_location 85 rfl) ?_
    refine pw_putri (aX12_location 86 rfl) uf_RX12_478 (fun _ _ _ => rfl) (fun t4 => ?_)
    refine pw_iloadn (aX12_location 87 rfl) rfl ?_
    refine pw_iconst (v := (1 : Int32)) (aX12_location 88 rfl) rfl ?_
    refine pw_iadd (aX12_location 89 rfl) ?_
    refine pw_istoren (L2 := [(2, .int ((l2i) + ((1 : Int32)))), (0, .ref (base + 121)), (1, .int (l1i)), (3, .int (l3i))]) (aX12_location 90 rfl) rfl ?_
    refine pw_aloadn (aX12_location 91 rfl) rfl ?_
    refine pw_bipush (v := (44 : Int32)) (aX12_location 92 rfl) rfl ?_
    refine pw_cf (pw_callV (Bs := [.int ((44 : Int32))]) (rest := []) (aX12_location 93 rfl) um_RX12_484 ujX12_isSign wc_RX12_484.2.2.2.2 (by decide) (by decide) rfl rfl (fun d => rX12_isSign hkb ((44 : Int32)) n2 sl2 SH2 (h_up FI2 121 68 ((FI2 121 68) + ((1 : Int32)))) FL2 FR2 hok2) (fun v4 n4 sl4 SH4 FI4 FL4 FR4 _ hC => ?_))
    obtain ⟨rfl, hC⟩ := hC; cases hC
    show pw _ _ _ _ _ _ _ 179 _ [.int (fX12_isSign ((44 : Int32)) SH2 (h_up FI2 121 68 ((FI2 121 68) + ((1 : Int32)))) FL2 FR2)] _ _
    refine pw_istoren (L2 := [(3, .int (fX12_isSign ((44 : Int32)) SH2 (h_up FI2 121 68 ((FI2 121 68) + ((1 : Int32)))) FL2 FR2)), (2, .int ((l2i) + ((1 : Int32)))), (0, .ref (base + 121)), (1, .int (l1i))]) (aX12_location 94 rfl) rfl ?_
    refine pw_iloadn (aX12_location 95 rfl) rfl ?_
    refine pw_ifeq (tgt := 22) (aX12_location 96 rfl) (by decide) (fun b5 => ?_) (fun b5 => ?_)
    · skip
      exact pw_Li (L2 := [(0, .ref (base + 121)), (1, .int (l1i)), (2, .int ((l2i) + ((1 : Int32)))), (3, .int (fX12_isSign ((44 : Int32)) SH2 (h_up FI2 121 68 ((FI2 121 68) + ((1 : Int32)))) FL2 FR2))]) [3, 2, 0, 1] (hK22 (l1i) ((l2i) + ((1 : Int32))) (fX12_isSign ((44 : Int32)) SH2 (h_up FI2 121 68 ((FI2 121 68) + ((1 : Int32)))) FL2 FR2) n2 sl2 SH2 (h_up FI2 121 68 ((FI2 121 68) + ((1 : Int32)))) FL2 FR2 hok2) ⟨rfl, rfl, rfl, rfl, trivial⟩
    · skip
      refine pw_aloadn (aX12_location 97 rfl) rfl ?_
      refine pw_aloadn (aX12_location 98 rfl) rfl ?_
      refine pw_getr (v := .int ((FI2 121 68) + ((1 : Int32)))) (aX12_location 99 rfl) uf_RX12_478 un_RX12_478 rfl ?_
      refine pw_iconst (v := (1 : Int32)) (aX12_location 100 rfl) rfl ?_
      refine pw_iadd (aX12_location 101 rfl) ?_
      refine pw_putri (aX12_location 102 rfl) uf_RX12_478 (fun _ _ _ => rfl) (fun t7 => ?_)
      refine pw_goto (tgt := 22) (aX12_location 103 rfl) (by decide) ?_
      exact pw_Li (L2 := [(0, .ref (base + 121)), (1, .int (l1i)), (2, .int ((l2i) + ((1 : Int32)))), (3, .int (fX12_isSign ((44 : Int32)) SH2 (h_up FI2 121 68 ((FI2 121 68) + ((1 : Int32)))) FL2 FR2))]) [3, 2, 0, 1] (hK22 (l1i) ((l2i) + ((1 : Int32))) (fX12_isSign ((44 : Int32)) SH2 (h_up FI2 121 68 ((FI2 121 68) + ((1 : Int32)))) FL2 FR2) n2 sl2 SH2 (h_up (h_up FI2 121 68 ((FI2 121 68) + ((1 : Int32)))) 121 68 (((FI2 121 68) + ((1 : Int32))) + ((1 : Int32)))) FL2 FR2 hok2) ⟨rfl, rfl, rfl, rfl, trivial⟩
  · skip
    exact pw_vret (aX12_location 70 rfl) hok
def RX12_location_103 (K22 : Int32 → Int32 → Int32 → Nat → Nat → (Nat → Nat × Nat) → (Nat → Nat → Int32) → (Nat → Nat → Int64) → (Nat → Nat → Option Nat) → Unit → hS → Prop)  (l1i : Int32) (l2i : Int32) (n sl : Nat) (SH : Nat → Nat × Nat) (FI : Nat → Nat → Int32) (FL : Nat → Nat → Int64) (FR : Nat → Nat → Option Nat) : Unit → hS → Prop := (P_if ((FI 121 69).toInt = 0) (P_and (p_in (FI 121 68) (SH 150).2) (P_if (((64 : Int64)).toInt < (FL 150 (FI 121 68).toInt.toNat).toInt) (P_bi (RX12_fail ((3 : Int32)) n sl SH FI FL FR) (fun v2 n2 sl2 SH2 FI2 FL2 FR2 => (RX12_location_131 K22  (l1i) (l2i) n2 sl2 SH2 FI2 FL2 FR2))) (RX12_location_131 K22  (l1i) (l2i) n sl SH FI FL FR))) (RX12_location_131 K22  (l1i) (l2i) n sl SH FI FL FR))
set_option maxHeartbeats 4000000 in
set_option maxRecDepth 100000 in
theorem rX12_location_103 {sk : xK} {base N d : Nat} {K22 : Int32 → Int32 → Int32 → Nat → Nat → (Nat → Nat × Nat) → (Nat → Nat → Int32) → (Nat → Nat → Int64) → (Nat → Nat → Option Nat) → Unit → hS → Prop} (hkb : x_kb sk base)  (l1i : Int32) (l2i : Int32) (l3i : Int32) (n sl : Nat) (SH : Nat → Nat × Nat) (FI : Nat → Nat → Int32) (FL : Nat → Nat → Int64) (FR : Nat → Nat → Option Nat) (hok : pk n SH FR)  (hK22 : ∀ (l1i : Int32) (l2i : Int32) (l3i : Int32) (n sl : Nat) (SH : Nat → Nat × Nat) (FI : Nat → Nat → Int32) (FL : Nat → Nat → Int64) (FR : Nat → Nat → Option Nat), pk n SH FR → pw pj_V sk base N d none 229 22 [(0, .ref (base + 121)), (1, .int (l1i)), (2, .int (l2i)), (3, .int (l3i))] [] (n, sl, SH, FI, FL, FR) (K22 l1i l2i l3i n sl SH FI FL FR)) : pw pj_V sk base N d none 229 103 [(0, .ref (base + 121)), (1, .int (l1i)), (2, .int (l2i)), (3, .int (l3i))] [] (n, sl, SH, FI, FL, FR) (RX12_location_103 K22  l1i l2i n sl SH FI FL FR) := by
  unfold RX12_location_103
  refine pw_aloadn (aX12_location 53 rfl) rfl ?_
  refine pw_getr (v := .int (FI 121 69)) (aX12_location 54 rfl) uf_RX12_475 un_RX12_475 rfl ?_
  refine pw_ifne (tgt := 131) (aX12_location 55 rfl) (by decide) (fun b0 => ?_) (fun b0 => ?_)
  · skip
    refine pw_aloadn (aX12_location 56 rfl) rfl ?_
    refine pw_getr (v := .ref (base + 150)) (aX12_location 57 rfl) uf_RX12_108 un_RX12_108 (congrArg (fun r => va_rf (h_rf base r)) (q121_63 (hok).2.1)) ?_
    refine pw_aloadn (aX12_location 58 rfl) rfl ?_
    refine pw_getr (v := .int (FI 121 68)) (aX12_location 59 rfl) uf_RX12_478 un_RX12_478 rfl ?_
    refine pw_laldr (c := 150) (ix := (FI 121 68).toInt.toNat) (aX12_location 60 rfl) rfl (fun _ => ?_)
    refine pw_ldc2 (v := (64 : Int64)) (aX12_location 61 rfl) uk_RX12_547 ?_
    refine pw_lcle (tgt := 131) (aX12_location 62 rfl) (aX12_location 63 rfl) (by decide) (fun b1 => ?_) (fun b1 => ?_)
    · skip
      refine pw_aloadn (aX12_location 64 rfl) rfl ?_
      refine pw_iconst (v := (3 : Int32)) (aX12_location 65 rfl) rfl ?_
      refine pw_callV (Bs := [.int ((3 : Int32))]) (rest := []) (aX12_location 66 rfl) um_RX12_487 ujX12_fail wc_RX12_487.2.2.2.2 (by decide) (by decide) rfl rfl (fun d => rX12_fail hkb ((3 : Int32)) n sl SH FI FL FR hok) (fun v2 n2 sl2 SH2 FI2 FL2 FR2 hok2 _ => ?_)
      show pw _ _ _ _ _ _ _ 131 _ [] _ _
      exact pw_Li (L2 := [(0, .ref (base + 121)), (1, .int (l1i)), (2, .int (l2i)), (3, .int (l3i))]) [0, 1, 2, 3] (rX12_location_131 hkb  (l1i) (l2i) (l3i) n2 sl2 SH2 FI2 FL2 FR2 hok2  hK22) ⟨rfl, rfl, rfl, rfl, trivial⟩
    · skip
      exact pw_Li (L2 := [(0, .ref (base + 121)), (1, .int (l1i)), (2, .int (l2i)), (3, .int (l3i))]) [0, 1, 2, 3] (rX12_location_131 hkb  (l1i) (l2i) (l3i) n sl SH FI FL FR hok  hK22) ⟨rfl, rfl, rfl, rfl, trivial⟩
  · skip
    exact pw_Li (L2 := [(0, .ref (base + 121)), (1, .int (l1i)), (2, .int (l2i)), (3, .int (l3i))]) [0, 1, 2, 3] (rX12_location_131 hkb  (l1i) (l2i) (l3i) n sl SH FI FL FR hok  hK22) ⟨rfl, rfl, rfl, rfl, trivial⟩
def RX12_location_60 (K22 : Int32 → Int32 → Int32 → Nat → Nat → (Nat → Nat × Nat) → (Nat → Nat → Int32) → (Nat → Nat → Int64) → (Nat → Nat → Option Nat) → Unit → hS → Prop)  (l1i : Int32) (l2i : Int32) (n sl : Nat) (SH : Nat → Nat × Nat) (FI : Nat → Nat → Int32) (FL : Nat → Nat → Int64) (FR : Nat → Nat → Option Nat) : Unit → hS → Prop := (P_if ((FI 121 69).toInt = 0) (P_bi (RX12_place  n sl SH FI FL FR) (fun v1 n1 sl1 SH1 FI1 FL1 FR1 => (P_bi (RX12_need ((47 : Int32)) n1 sl1 SH1 FI1 FL1 FR1) (fun v2 n2 sl2 SH2 FI2 FL2 FR2 => (P_if ((FI2 121 69).toInt = 0) (P_and (p_in (FI2 121 68) (SH2 149).2) (P_if ((FI2 149 (FI2 121 68).toInt.toNat).toInt = ((3 : Int32)).toInt) (RX12_location_103 K22  (l1i) (l2i) n2 sl2 SH2 FI2 FL2 FR2) (P_bi (RX12_fail ((1 : Int32)) n2 sl2 SH2 FI2 FL2 FR2) (fun v5 n5 sl5 SH5 FI5 FL5 FR5 => (RX12_location_103 K22  (l1i) (l2i) n5 sl5 SH5 FI5 FL5 FR5))))) (RX12_location_103 K22  (l1i) (l2i) n2 sl2 SH2 FI2 FL2 FR2)))))) (P_ret () (n, sl, SH, FI, FL, FR)))
set_option maxHeartbeats 4000000 in
set_option maxRecDepth 100000 in
theorem rX12_location_60 {sk : xK} {base N d : Nat} {K22 : Int32 → Int32 → Int32 → Nat → Nat → (Nat → Nat × Nat) → (Nat → Nat → Int32) → (Nat → Nat → Int64) → (Nat → Nat → Option Nat) → Unit → hS → Prop} (hkb : x_kb sk base)  (l1i : Int32) (l2i : Int32) (l3i : Int32) (n sl : Nat) (SH : Nat → Nat × Nat) (FI : Nat → Nat → Int32) (FL : Nat → Nat → Int64) (FR : Nat → Nat → Option Nat) (hok : pk n SH FR)  (hK22 : ∀ (l1i : Int32) (l2i : Int32) (l3i : Int32) (n sl : Nat) (SH : Nat → Nat × Nat) (FI : Nat → Nat → Int32) (FL : Nat → Nat → Int64) (FR : Nat → Nat → Option Nat), pk n SH FR → pw pj_V sk base N d none 229 22 [(0, .ref (base + 121)), (1, .int (l1i)), (2, .int (l2i)), (3, .int (l3i))] [] (n, sl, SH, FI, FL, FR) (K22 l1i l2i l3i n sl SH FI FL FR)) : pw pj_V sk base N d none 229 60 [(0, .ref (base + 121)), (1, .int (l1i)), (2, .int (l2i)), (3, .int (l3i))] [] (n, sl, SH, FI, FL, FR) (RX12_location_60 K22  l1i l2i n sl SH FI FL FR) := by
  unfold RX12_location_60
  refine pw_aloadn (aX12_location 31 rfl) rfl ?_
  refine pw_getr (v := .int (FI 121 69)) (aX12_location 32 rfl) uf_RX12_475 un_RX12_475 rfl ?_
  refine pw_ifeq (tgt := 68) (aX12_location 33 rfl) (by decide) (fun b0 => ?_) (fun b0 => ?_)
  · skip
    refine pw_aloadn (aX12_location 35 rfl) rfl ?_
    refine pw_callV (Bs := []) (rest := []) (aX12_location 36 rfl) um_RX12_544 ujX12_place wc_RX12_544.2.2.2.2 (by decide) (by decide) rfl rfl (fun d => rX12_place hkb  n sl SH FI FL FR hok) (fun v1 n1 sl1 SH1 FI1 FL1 FR1 hok1 _ => ?_)
    show pw _ _ _ _ _ _ _ 72 _ [] _ _
    refine pw_aloadn (aX12_location 37 rfl) rfl ?_
    refine pw_bipush (v := (47 : Int32)) (aX12_location 38 rfl) rfl ?_
    refine pw_callV (Bs := [.int ((47 : Int32))]) (rest := []) (aX12_location 39 rfl) um_RX12_527 ujX12_need wc_RX12_527.2.2.2.2 (by decide) (by decide) rfl rfl (fun d => rX12_need hkb ((47 : Int32)) n1 sl1 SH1 FI1 FL1 FR1 hok1) (fun v2 n2 sl2 SH2 FI2 FL2 FR2 hok2 _ => ?_)
    show pw _ _ _ _ _ _ _ 78 _ [] _ _
    refine pw_aloadn (aX12_location 40 rfl) rfl ?_
    refine pw_getr (v := .int (FI2 121 69)) (aX12_location 41 rfl) uf_RX12_475 un_RX12_475 rfl ?_
    refine pw_ifne (tgt := 103) (aX12_location 42 rfl) (by decide) (fun b3 => ?_) (fun b3 => ?_)
    · skip
      refine pw_aloadn (aX12_location 43 rfl) rfl ?_
      refine pw_getr (v := .ref (base + 149)) (aX12_location 44 rfl) uf_RX12_105 un_RX12_105 (congrArg (fun r => va_rf (h_rf base r)) (q121_62 (hok2).2.1)) ?_
      refine pw_aloadn (aX12_location 45 rfl) rfl ?_
      refine pw_getr (v := .int (FI2 121 68)) (aX12_location 46 rfl) uf_RX12_478 un_RX12_478 rfl ?_
      refine pw_ialdr (c := 149) (ix := (FI2 121 68).toInt.toNat) (aX12_location 47 rfl) rfl (fun _ => ?_)
      refine pw_iconst (v := (3 : Int32)) (aX12_location 48 rfl) rfl ?_
      refine pw_iceq (tgt := 103) (aX12_location 49 rfl) (by decide) (fun b4 => ?_) (fun b4 => ?_)
      · skip
        exact pw_Li (L2 := [(0, .ref (base + 121)), (1, .int (l1i)), (2, .int (l2i)), (3, .int (l3i))]) [0, 1, 2, 3] (rX12_location_103 hkb  (l1i) (l2i) (l3i) n2 sl2 SH2 FI2 FL2 FR2 hok2  hK22) ⟨rfl, rfl, rfl, rfl, trivial⟩
      · skip
        refine pw_aloadn (aX12_location 50 rfl) rfl ?_
        refine pw_iconst (v := (1 : Int32)) (aX12_location 51 rfl) rfl ?_
        refine pw_callV (Bs := [.int ((1 : Int32))]) (rest := []) (aX12_location 52 rfl) um_RX12_487 ujX12_fail wc_RX12_487.2.2.2.2 (by decide) (by decide) rfl rfl (fun d => rX12_fail hkb ((1 : Int32)) n2 sl2 SH2 FI2 FL2 FR2 hok2) (fun v5 n5 sl5 SH5 FI5 FL5 FR5 hok5 _ => ?_)
        show pw _ _ _ _ _ _ _ 103 _ [] _ _
        exact pw_Li (L2 := [(0, .ref (base + 121)), (1, .int (l1i)), (2, .int (l2i)), (3, .int (l3i))]) [0, 1, 2, 3] (rX12_location_103 hkb  (l1i) (l2i) (l3i) n5 sl5 SH5 FI5 FL5 FR5 hok5  hK22) ⟨rfl, rfl, rfl, rfl, trivial⟩
    · skip
      exact pw_Li (L2 := [(0, .ref (base + 121)), (1, .int (l1i)), (2, .int (l2i)), (3, .int (l3i))]) [0, 1, 2, 3] (rX12_location_103 hkb  (l1i) (l2i) (l3i) n2 sl2 SH2 FI2 FL2 FR2 hok2  hK22) ⟨rfl, rfl, rfl, rfl, trivial⟩
  · skip
    exact pw_vret (aX12_location 34 rfl) hok
def BX12_location_22 (K22 : Int32 → Int32 → Int32 → Nat → Nat → (Nat → Nat × Nat) → (Nat → Nat → Int32) → (Nat → Nat → Int64) → (Nat → Nat → Option Nat) → Unit → hS → Prop)  (l1i : Int32) (l2i : Int32) (l3i : Int32) (n sl : Nat) (SH : Nat → Nat × Nat) (FI : Nat → Nat → Int32) (FL : Nat → Nat → Int64) (FR : Nat → Nat → Option Nat) : Unit → hS → Prop := (P_if ((l3i).toInt = 0) (RX12_location_197   (l1i) n sl SH FI FL FR) (P_if ((FI 121 69).toInt = 0) (P_if ((fX12_isPlace  SH FI FL FR).toInt = 0) (P_bi (RX12_fail ((1 : Int32)) n sl SH FI FL FR) (fun v4 n4 sl4 SH4 FI4 FL4 FR4 => (RX12_location_60 K22  (l1i) (l2i) n4 sl4 SH4 FI4 FL4 FR4))) (P_if ((l2i).toInt = ((8 : Int32)).toInt) (P_bi (RX12_fail ((6 : Int32)) n sl SH FI FL FR) (fun v6 n6 sl6 SH6 FI6 FL6 FR6 => (RX12_location_60 K22  (l1i) (l2i) n6 sl6 SH6 FI6 FL6 FR6))) (RX12_location_60 K22  (l1i) (l2i) n sl SH FI FL FR))) (RX12_location_197   (l1i) n sl SH FI FL FR)))
set_option maxHeartbeats 4000000 in
set_option maxRecDepth 100000 in
theorem bX12_location_22 {sk : xK} {base N d : Nat} {K22 : Int32 → Int32 → Int32 → Nat → Nat → (Nat → Nat × Nat) → (Nat → Nat → Int32) → (Nat → Nat → Int64) → (Nat → Nat → Option Nat) → Unit → hS → Prop} (hkb : x_kb sk base)  (l1i : Int32) (l2i : Int32) (l3i : Int32)  (n sl : Nat) (SH : Nat → Nat × Nat) (FI : Nat → Nat → Int32) (FL : Nat → Nat → Int64) (FR : Nat → Nat → Option Nat) (hok : pk n SH FR)  (hK22 : ∀ (l1i : Int32) (l2i : Int32) (l3i : Int32) (n sl : Nat) (SH : Nat → Nat × Nat) (FI : Nat → Nat → Int32) (FL : Nat → Nat → Int64) (FR : Nat → Nat → Option Nat), pk n SH FR → pw pj_V sk base N d none 229 22 [(0, .ref (base + 121)), (1, .int (l1i)), (2, .int (l2i)), (3, .int (l3i))] [] (n, sl, SH, FI, FL, FR) (K22 l1i l2i l3i n sl SH FI FL FR)) : pw pj_V sk base (N + 1) d none 229 22 [(0, .ref (base + 121)), (1, .int (l1i)), (2, .int (l2i)), (3, .int (l3i))] [] (n, sl, SH, FI, FL, FR) (BX12_location_22 K22  l1i l2i l3i n sl SH FI FL FR) := by
  unfold BX12_location_22
  refine pd_iloadn (aX12_location 13 rfl) rfl ?_
  refine pw_ifeq (tgt := 197) (aX12_location 14 rfl) (by decide) (fun b0 => ?_) (fun b0 => ?_)
  · skip
    exact pw_Li (L2 := [(0, .ref (base + 121)), (1, .int (l1i)), (2, .int (l2i)), (3, .int (l3i))]) [0, 1, 2, 3] (rX12_location_197 hkb  (l1i) (l2i) (l3i) n sl SH FI FL FR hok  ) ⟨rfl, rfl, rfl, rfl, trivial⟩
  · skip
    refine pw_aloadn (aX12_location 15 rfl) rfl ?_
    refine pw_getr (v := .int (FI 121 69)) (aX12_location 16 rfl) uf_RX12_475 un_RX12_475 rfl ?_
    refine pw_ifne (tgt := 197) (aX12_location 17 rfl) (by decide) (fun b1 => ?_) (fun b1 => ?_)
    · skip
      refine pw_aloadn (aX12_location 18 rfl) rfl ?_
      refine pw_cf (pw_callV (Bs := []) (rest := []) (aX12_location 19 rfl) um_RX12_541 ujX12_isPlace wc_RX12_541.2.2.2.2 (by decide) (by decide) rfl rfl (fun d => rX12_isPlace hkb  n sl SH FI FL FR hok) (fun v2 n2 sl2 SH2 FI2 FL2 FR2 _ hC => ?_))
      obtain ⟨rfl, hC⟩ := hC; cases hC
      show pw _ _ _ _ _ _ _ 37 _ [.int (fX12_isPlace  SH FI FL FR)] _ _
      refine pw_ifne (tgt := 48) (aX12_location 20 rfl) (by decide) (fun b3 => ?_) (fun b3 => ?_)
      · skip
        refine pw_aloadn (aX12_location 21 rfl) rfl ?_
        refine pw_iconst (v := (1 : Int32)) (aX12_location 22 rfl) rfl ?_
        refine pw_callV (Bs := [.int ((1 : Int32))]) (rest := []) (aX12_location 23 rfl) um_RX12_487 ujX12_fail wc_RX12_487.2.2.2.2 (by decide) (by decide) rfl rfl (fun d => rX12_fail hkb ((1 : Int32)) n sl SH FI FL FR hok) (fun v4 n4 sl4 SH4 FI4 FL4 FR4 hok4 _ => ?_)
        show pw _ _ _ _ _ _ _ 45 _ [] _ _
        refine pw_goto (tgt := 60) (aX12_location 24 rfl) (by decide) ?_
        exact pw_Li (L2 := [(0, .ref (base + 121)), (1, .int (l1i)), (2, .int (l2i)), (3, .int (l3i))]) [0, 1, 2, 3] (rX12_location_60 hkb  (l1i) (l2i) (l3i) n4 sl4 SH4 FI4 FL4 FR4 hok4  hK22) ⟨rfl, rfl, rfl, rfl, trivial⟩
      · skip
        refine pw_iloadn (aX12_location 25 rfl) rfl ?_
        refine pw_bipush (v := (8 : Int32)) (aX12_location 26 rfl) rfl ?_
        refine pw_icne (tgt := 60) (aX12_location 27 rfl) (by decide) (fun b5 => ?_) (fun b5 => ?_)
        · skip
          refine pw_aloadn (aX12_location 28 rfl) rfl ?_
          refine pw_bipush (v := (6 : Int32)) (aX12_location 29 rfl) rfl ?_
          refine pw_callV (Bs := [.int ((6 : Int32))]) (rest := []) (aX12_location 30 rfl) um_RX12_487 ujX12_fail wc_RX12_487.2.2.2.2 (by decide) (by decide) rfl rfl (fun d => rX12_fail hkb ((6 : Int32)) n sl SH FI FL FR hok) (fun v6 n6 sl6 SH6 FI6 FL6 FR6 hok6 _ => ?_)
          show pw _ _ _ _ _ _ _ 60 _ [] _ _
          exact pw_Li (L2 := [(0, .ref (base + 121)), (1, .int (l1i)), (2, .int (l2i)), (3, .int (l3i))]) [0, 1, 2, 3] (rX12_location_60 hkb  (l1i) (l2i) (l3i) n6 sl6 SH6 FI6 FL6 FR6 hok6  hK22) ⟨rfl, rfl, rfl, rfl, trivial⟩
        · skip
          exact pw_Li (L2 := [(0, .ref (base + 121)), (1, .int (l1i)), (2, .int (l2i)), (3, .int (l3i))]) [0, 1, 2, 3] (rX12_location_60 hkb  (l1i) (l2i) (l3i) n sl SH FI FL FR hok  hK22) ⟨rfl, rfl, rfl, rfl, trivial⟩
    · skip
      exact pw_Li (L2 := [(0, .ref (base + 121)), (1, .int (l1i)), (2, .int (l2i)), (3, .int (l3i))]) [0, 1, 2, 3] (rX12_location_197 hkb  (l1i) (l2i) (l3i) n sl SH FI FL FR hok  ) ⟨rfl, rfl, rfl, rfl, trivial⟩
def GX12_location_22   : Nat → Int32 → Int32 → Int32 → Nat → Nat → (Nat → Nat × Nat) → (Nat → Nat → Int32) → (Nat → Nat → Int64) → (Nat → Nat → Option Nat) → Unit → hS → Prop
  | 0, _, _, _, _, _, _, _, _, _ => fun _ _ => False
  | g + 1, l1i, l2i, l3i, n, sl, SH, FI, FL, FR => BX12_location_22  (GX12_location_22   g)  l1i l2i l3i n sl SH FI FL FR
def RX12_location_22   (l1i : Int32) (l2i : Int32) (l3i : Int32) (n sl : Nat) (SH : Nat → Nat × Nat) (FI : Nat → Nat → Int32) (FL : Nat → Nat → Int64) (FR : Nat → Nat → Option Nat) : Unit → hS → Prop := fun v s => ∃ g, GX12_location_22   g l1i l2i l3i n sl SH FI FL FR v s
theorem gX12_location_22 {sk : xK} {base d : Nat}  (hkb : x_kb sk base)  (N : Nat) :  ∀ (l1i : Int32) (l2i : Int32) (l3i : Int32)  (n sl : Nat) (SH : Nat → Nat × Nat) (FI : Nat → Nat → Int32) (FL : Nat → Nat → Int64) (FR : Nat → Nat → Option Nat), pk n SH FR → pw pj_V sk base N d none 229 22 [(0, .ref (base + 121)), (1, .int (l1i)), (2, .int (l2i)), (3, .int (l3i))] [] (n, sl, SH, FI, FL, FR) (GX12_location_22   (N + 1) l1i l2i l3i n sl SH FI FL FR) := by
  induction N with
  | zero => intros; exact pw_0
  | succ N ih => intro   l1i l2i l3i  n sl SH FI FL FR hok; exact bX12_location_22 hkb  l1i l2i l3i  n sl SH FI FL FR hok  (ih  )
theorem rX12_location_22 {sk : xK} {base N d : Nat}  (hkb : x_kb sk base)  (l1i : Int32) (l2i : Int32) (l3i : Int32)  (n sl : Nat) (SH : Nat → Nat × Nat) (FI : Nat → Nat → Int32) (FL : Nat → Nat → Int64) (FR : Nat → Nat → Option Nat) (hok : pk n SH FR)   : pw pj_V sk base N d none 229 22 [(0, .ref (base + 121)), (1, .int (l1i)), (2, .int (l2i)), (3, .int (l3i))] [] (n, sl, SH, FI, FL, FR) (RX12_location_22   l1i l2i l3i n sl SH FI FL FR) := pw_cons (gX12_location_22 hkb  N   l1i l2i l3i  n sl SH FI FL FR hok) (fun _ _ h => ⟨_, h⟩)
def RX12_location  (n sl : Nat) (SH : Nat → Nat × Nat) (FI : Nat → Nat → Int32) (FL : Nat → Nat → Int64) (FR : Nat → Nat → Option Nat) : Unit → hS → Prop := (P_if ((fX12_isSign ((123 : Int32)) SH FI FL FR).toInt = 0) (P_if ((fX12_isPlace  SH FI FL FR).toInt = 0) (P_bi (RX12_fail ((1 : Int32)) n sl SH FI FL FR) (fun v4 n4 sl4 SH4 FI4 FL4 FR4 => (RX12_location_235   (FI 121 73) n4 sl4 SH4 FI4 FL4 FR4))) (P_bi (RX12_place  n sl SH FI FL FR) (fun v5 n5 sl5 SH5 FI5 FL5 FR5 => (RX12_location_235   (FI 121 73) n5 sl5 SH5 FI5 FL5 FR5)))) (P_bi (RX12_opens  n sl SH FI FL FR) (fun v6 n6 sl6 SH6 FI6 FL6 FR6 => (RX12_location_22   (FI 121 73) ((0 : Int32)) ((1 : Int32)) n6 sl6 SH6 FI6 FL6 FR6))))
set_option maxHeartbeats 4000000 in
set_option maxRecDepth 100000 in
theorem rX12_location {sk : xK} {base N d : Nat} (hkb : x_kb sk base)  (n sl : Nat) (SH : Nat → Nat × Nat) (FI : Nat → Nat → Int32) (FL : Nat → Nat → Int64) (FR : Nat → Nat → Option Nat) (hok : pk n SH FR)  : pw pj_V sk base N d none 229 0 [(0, .ref (base + 121))] [] (n, sl, SH, FI, FL, FR) (RX12_location  n sl SH FI FL FR) := by
  unfold RX12_location
  refine pw_aloadn (aX12_location 0 rfl) rfl ?_
  refine pw_getr (v := .int (FI 121 73)) (aX12_location 1 rfl) uf_RX12_493 un_RX12_493 rfl ?_
  refine pw_istoren (L2 := [(1, .int (FI 121 73)), (0, .ref (base + 121))]) (aX12_location 2 rfl) rfl ?_
  refine pw_aloadn (aX12_location 3 rfl) rfl ?_
  refine pw_bipush (v := (123 : Int32)) (aX12_location 4 rfl) rfl ?_
  refine pw_cf (pw_callV (Bs := [.int ((123 : Int32))]) (rest := []) (aX12_location 5 rfl) um_RX12_484 ujX12_isSign wc_RX12_484.2.2.2.2 (by decide) (by decide) rfl rfl (fun d => rX12_isSign hkb ((123 : Int32)) n sl SH FI FL FR hok) (fun v0 n0 sl0 SH0 FI0 FL0 FR0 _ hC => ?_))
  obtain ⟨rfl, hC⟩ := hC; cases hC
  show pw _ _ _ _ _ _ _ 11 _ [.int (fX12_isSign ((123 : Int32)) SH FI FL FR)] _ _
  refine pw_ifeq (tgt := 216) (aX12_location 6 rfl) (by decide) (fun b1 => ?_) (fun b1 => ?_)
  · skip
    refine pw_aloadn (aX12_location 114 rfl) rfl ?_
    refine pw_cf (pw_callV (Bs := []) (rest := []) (aX12_location 115 rfl) um_RX12_541 ujX12_isPlace wc_RX12_541.2.2.2.2 (by decide) (by decide) rfl rfl (fun d => rX12_isPlace hkb  n sl SH FI FL FR hok) (fun v2 n2 sl2 SH2 FI2 FL2 FR2 _ hC => ?_))
    obtain ⟨rfl, hC⟩ := hC; cases hC
    show pw _ _ _ _ _ _ _ 220 _ [.int (fX12_isPlace  SH FI FL FR)] _ _
    refine pw_ifeq (tgt := 230) (aX12_location 116 rfl) (by decide) (fun b3 => ?_) (fun b3 => ?_)
    · skip
      refine pw_aloadn (aX12_location 120 rfl) rfl ?_
      refine pw_iconst (v := (1 : Int32)) (aX12_location 121 rfl) rfl ?_
      refine pw_callV (Bs := [.int ((1 : Int32))]) (rest := []) (aX12_location 122 rfl) um_RX12_487 ujX12_fail wc_RX12_487.2.2.2.2 (by decide) (by decide) rfl rfl (fun d => rX12_fail hkb ((1 : Int32)) n sl SH FI FL FR hok) (fun v4 n4 sl4 SH4 FI4 FL4 FR4 hok4 _ => ?_)
      show pw _ _ _ _ _ _ _ 235 _ [] _ _
      exact pw_Li (L2 := [(0, .ref (base + 121)), (1, .int (FI 121 73)), (2, .int 0), (3, .int 0)]) [1, 0] (rX12_location_235 hkb  (FI 121 73) 0 0 n4 sl4 SH4 FI4 FL4 FR4 hok4  ) ⟨rfl, rfl, trivial⟩
    · skip
      refine pw_aloadn (aX12_location 117 rfl) rfl ?_
      refine pw_callV (Bs := []) (rest := []) (aX12_location 118 rfl) um_RX12_544 ujX12_place wc_RX12_544.2.2.2.2 (by decide) (by decide) rfl rfl (fun d => rX12_place hkb  n sl SH FI FL FR hok) (fun v5 n5 sl5 SH5 FI5 FL5 FR5 hok5 _ => ?_)
      show pw _ _ _ _ _ _ _ 227 _ [] _ _
      refine pw_goto (tgt := 235) (aX12_location 119 rfl) (by decide) ?_
      exact pw_Li (L2 := [(0, .ref (base + 121)), (1, .int (FI 121 73)), (2, .int 0), (3, .int 0)]) [1, 0] (rX12_location_235 hkb  (FI 121 73) 0 0 n5 sl5 SH5 FI5 FL5 FR5 hok5  ) ⟨rfl, rfl, trivial⟩
  · skip
    refine pw_aloadn (aX12_location 7 rfl) rfl ?_
    refine pw_callV (Bs := []) (rest := []) (aX12_location 8 rfl) um_RX12_538 ujX12_opens wc_RX12_538.2.2.2.2 (by decide) (by decide) rfl rfl (fun d => rX12_opens hkb  n sl SH FI FL FR hok) (fun v6 n6 sl6 SH6 FI6 FL6 FR6 hok6 _ => ?_)
    show pw _ _ _ _ _ _ _ 18 _ [] _ _
    refine pw_iconst (v := (0 : Int32)) (aX12_location 9 rfl) rfl ?_
    refine pw_istoren (L2 := [(2, .int ((0 : Int32))), (1, .int (FI 121 73)), (0, .ref (base + 121))]) (aX12_location 10 rfl) rfl ?_
    refine pw_iconst (v := (1 : Int32)) (aX12_location 11 rfl) rfl ?_
    refine pw_istoren (L2 := [(3, .int ((1 : Int32))), (2, .int ((0 : Int32))), (1, .int (FI 121 73)), (0, .ref (base + 121))]) (aX12_location 12 rfl) rfl ?_
    exact pw_Li (L2 := [(0, .ref (base + 121)), (1, .int (FI 121 73)), (2, .int ((0 : Int32))), (3, .int ((1 : Int32)))]) [3, 2, 1, 0] (rX12_location_22 hkb  (FI 121 73) ((0 : Int32)) ((1 : Int32)) n6 sl6 SH6 FI6 FL6 FR6 hok6  ) ⟨rfl, rfl, rfl, rfl, trivial⟩
def RX12_rows_318 (K2 : Int32 → Nat → Nat → (Nat → Nat × Nat) → (Nat → Nat → Int32) → (Nat → Nat → Int64) → (Nat → Nat → Option Nat) → Unit → hS → Prop)  (l1i : Int32) (n sl : Nat) (SH : Nat → Nat × Nat) (FI : Nat → Nat → Int32) (FL : Nat → Nat → Int64) (FR : Nat → Nat → Option Nat) : Unit → hS → Prop := (K2 (l1i) n sl SH FI FL FR)
set_option maxHeartbeats 4000000 in
set_option maxRecDepth 100000 in
theorem rX12_rows_318 {sk : xK} {base N d : Nat} {K2 : Int32 → Nat → Nat → (Nat → Nat × Nat) → (Nat → Nat → Int32) → (Nat → Nat → Int64) → (Nat → Nat → Option Nat) → Unit → hS → Prop} (hkb : x_kb sk base)  (l1i : Int32) (l2l : Int64) (l4i : Int32) (l5i : Int32) (n sl : Nat) (SH : Nat → Nat × Nat) (FI : Nat → Nat → Int32) (FL : Nat → Nat → Int64) (FR : Nat → Nat → Option Nat) (hok : pk n SH FR)  (hK2 : ∀ (l1i : Int32) (l2l : Int64) (l4i : Int32) (l5i : Int32) (n sl : Nat) (SH : Nat → Nat × Nat) (FI : Nat → Nat → Int32) (FL : Nat → Nat → Int64) (FR : Nat → Nat → Option Nat), pk n SH FR → pw pj_V sk base N d none 227 2 [(0, .ref (base + 121)), (1, .int (l1i)), (2, .long (l2l)), (4, .int (l4i)), (5, .int (l5i))] [] (n, sl, SH, FI, FL, FR) (K2 l1i n sl SH FI FL FR)) : pw pj_V sk base N d none 227 318 [(0, .ref (base + 121)), (1, .int (l1i)), (2, .long (l2l)), (4, .int (l4i)), (5, .int (l5i))] [] (n, sl, SH, FI, FL, FR) (RX12_rows_318 K2  l1i n sl SH FI FL FR) := by
  unfold RX12_rows_318
  refine pw_goto (tgt := 2) (aX12_rows 172 rfl) (by decide) ?_
  exact pw_Li (L2 := [(0, .ref (base + 121)), (1, .int (l1i)), (2, .long (l2l)), (4, .int (l4i)), (5, .int (l5i))]) [0, 1, 2, 3, 4] (hK2 (l1i) (l2l) (l4i) (l5i) n sl SH FI FL FR hok) ⟨rfl, rfl, rfl, rfl, rfl, trivial⟩
def RX12_rows_303 (K2 : Int32 → Nat → Nat → (Nat → Nat × Nat) → (Nat → Nat → Int32) → (Nat → Nat → Int64) → (Nat → Nat → Option Nat) → Unit → hS → Prop)  (s0i : Int32) (n sl : Nat) (SH : Nat → Nat × Nat) (FI : Nat → Nat → Int32) (FL : Nat → Nat → Int64) (FR : Nat → Nat → Option Nat) : Unit → hS → Prop := (P_if ((s0i).toInt = 0) (RX12_rows_318 K2  (s0i) n sl SH FI FL FR) (RX12_rows_318 K2  (s0i) n sl SH (h_up FI 121 68 ((FI 121 68) + ((1 : Int32)))) FL FR))
set_option maxHeartbeats 4000000 in
set_option maxRecDepth 100000 in
theorem rX12_rows_303 {sk : xK} {base N d : Nat} {K2 : Int32 → Nat → Nat → (Nat → Nat × Nat) → (Nat → Nat → Int32) → (Nat → Nat → Int64) → (Nat → Nat → Option Nat) → Unit → hS → Prop} (hkb : x_kb sk base)  (s0i : Int32) (l1i : Int32) (l2l : Int64) (l4i : Int32) (l5i : Int32) (n sl : Nat) (SH : Nat → Nat × Nat) (FI : Nat → Nat → Int32) (FL : Nat → Nat → Int64) (FR : Nat → Nat → Option Nat) (hok : pk n SH FR)  (hK2 : ∀ (l1i : Int32) (l2l : Int64) (l4i : Int32) (l5i : Int32) (n sl : Nat) (SH : Nat → Nat × Nat) (FI : Nat → Nat → Int32) (FL : Nat → Nat → Int64) (FR : Nat → Nat → Option Nat), pk n SH FR → pw pj_V sk base N d none 227 2 [(0, .ref (base + 121)), (1, .int (l1i)), (2, .long (l2l)), (4, .int (l4i)), (5, .int (l5i))] [] (n, sl, SH, FI, FL, FR) (K2 l1i n sl SH FI FL FR)) : pw pj_V sk base N d none 227 303 [(0, .ref (base + 121)), (1, .int (l1i)), (2, .long (l2l)), (4, .int (l4i)), (5, .int (l5i))] [.int (s0i)] (n, sl, SH, FI, FL, FR) (RX12_rows_303 K2  s0i n sl SH FI FL FR) := by
  unfold RX12_rows_303
  refine pw_istoren (L2 := [(1, .int (s0i)), (0, .ref (base + 121)), (2, .long (l2l)), (4, .int (l4i)), (5, .int (l5i))]) (aX12_rows 163 rfl) rfl ?_
  refine pw_iloadn (aX12_rows 164 rfl) rfl ?_
  refine pw_ifeq (tgt := 318) (aX12_rows 165 rfl) (by decide) (fun b0 => ?_) (fun b0 => ?_)
  · skip
    exact pw_Li (L2 := [(0, .ref (base + 121)), (1, .int (s0i)), (2, .long (l2l)), (4, .int (l4i)), (5, .int (l5i))]) [1, 0, 2, 3, 4] (rX12_rows_318 hkb  (s0i) (l2l) (l4i) (l5i) n sl SH FI FL FR hok  hK2) ⟨rfl, rfl, rfl, rfl, rfl, trivial⟩
  · skip
    refine pw_aloadn (aX12_rows 166 rfl) rfl ?_
    refine pw_aloadn (aX12_rows 167 rfl) rfl ?_
    refine pw_getr (v := .int (FI 121 68)) (aX12_rows 168 rfl) uf_RX12_478 un_RX12_478 rfl ?_
    refine pw_iconst (v := (1 : Int32)) (aX12_rows 169 rfl) rfl ?_
    refine pw_iadd (aX12_rows 170 rfl) ?_
    refine pw_putri (aX12_rows 171 rfl) uf_RX12_478 (fun _ _ _ => rfl) (fun t2 => ?_)
    exact pw_Li (L2 := [(0, .ref (base + 121)), (1, .int (s0i)), (2, .long (l2l)), (4, .int (l4i)), (5, .int (l5i))]) [1, 0, 2, 3, 4] (rX12_rows_318 hkb  (s0i) (l2l) (l4i) (l5i) n sl SH (h_up FI 121 68 ((FI 121 68) + ((1 : Int32)))) FL FR hok  hK2) ⟨rfl, rfl, rfl, rfl, rfl, trivial⟩
def RX12_rows_302 (K2 : Int32 → Nat → Nat → (Nat → Nat × Nat) → (Nat → Nat → Int32) → (Nat → Nat → Int64) → (Nat → Nat → Option Nat) → Unit → hS → Prop)   (n sl : Nat) (SH : Nat → Nat × Nat) (FI : Nat → Nat → Int32) (FL : Nat → Nat → Int64) (FR : Nat → Nat → Option Nat) : Unit → hS → Prop := (RX12_rows_303 K2  ((0 : Int32)) n sl SH FI FL FR)
set_option maxHeartbeats 4000000 in
set_option maxRecDepth 100000 in
theorem rX12_rows_302 {sk : xK} {base N d : Nat} {K2 : Int32 → Nat → Nat → (Nat → Nat × Nat) → (Nat → Nat → Int32) → (Nat → Nat → Int64) → (Nat → Nat → Option Nat) → Unit → hS → Prop} (hkb : x_kb sk base)   (l1i : Int32) (l2l : Int64) (l4i : Int32) (l5i : Int32) (n sl : Nat) (SH : Nat → Nat × Nat) (FI : Nat → Nat → Int32) (FL : Nat → Nat → Int64) (FR : Nat → Nat → Option Nat) (hok : pk n SH FR)  (hK2 : ∀ (l1i : Int32) (l2l : Int64) (l4i : Int32) (l5i : Int32) (n sl : Nat) (SH : Nat → Nat × Nat) (FI : Nat → Nat → Int32) (FL : Nat → Nat → Int64) (FR : Nat → Nat → Option Nat), pk n SH FR → pw pj_V sk base N d none 227 2 [(0, .ref (base + 121)), (1, .int (l1i)), (2, .long (l2l)), (4, .int (l4i)), (5, .int (l5i))] [] (n, sl, SH, FI, FL, FR) (K2 l1i n sl SH FI FL FR)) : pw pj_V sk base N d none 227 302 [(0, .ref (base + 121)), (1, .int (l1i)), (2, .long (l2l)), (4, .int (l4i)), (5, .int (l5i))] [] (n, sl, SH, FI, FL, FR) (RX12_rows_302 K2   n sl SH FI FL FR) := by
  unfold RX12_rows_302
  refine pw_iconst (v := (0 : Int32)) (aX12_rows 162 rfl) rfl ?_
  exact pw_Li (L2 := [(0, .ref (base + 121)), (1, .int (l1i)), (2, .long (l2l)), (4, .int (l4i)), (5, .int (l5i))]) [0, 1, 2, 3, 4] (rX12_rows_303 hkb  ((0 : Int32)) (l1i) (l2l) (l4i) (l5i) n sl SH FI FL FR hok  hK2) ⟨rfl, rfl, rfl, rfl, rfl, trivial⟩
def RX12_rows_262 (K2 : Int32 → Nat → Nat → (Nat → Nat × Nat) → (Nat → Nat → Int32) → (Nat → Nat → Int64) → (Nat → Nat → Option Nat) → Unit → hS → Prop)   (n sl : Nat) (SH : Nat → Nat × Nat) (FI : Nat → Nat → Int32) (FL : Nat → Nat → Int64) (FR : Nat → Nat → Option Nat) : Unit → hS → Prop := (P_and (p_in (FI 121 78) (SH 159).2) (P_and (p_in (FI 121 78) (SH 159).2) (P_if ((FI 121 69).toInt = 0) (P_if ((fX12_isSign ((44 : Int32)) SH (h_up FI 159 (FI 121 78).toInt.toNat ((FI 159 (FI 121 78).toInt.toNat) + ((1 : Int32)))) FL FR).toInt = 0) (RX12_rows_302 K2   n sl SH (h_up FI 159 (FI 121 78).toInt.toNat ((FI 159 (FI 121 78).toInt.toNat) + ((1 : Int32)))) FL FR) (RX12_rows_303 K2  ((1 : Int32)) n sl SH (h_up FI 159 (FI 121 78).toInt.toNat ((FI 159 (FI 121 78).toInt.toNat) + ((1 : Int32)))) FL FR)) (RX12_rows_302 K2   n sl SH (h_up FI 159 (FI 121 78).toInt.toNat ((FI 159 (FI 121 78).toInt.toNat) + ((1 : Int32)))) FL FR))))
set_option maxHeartbeats 4000000 in
set_option maxRecDepth 100000 in
theorem rX12_rows_262 {sk : xK} {base N d : Nat} {K2 : Int32 → Nat → Nat → (Nat → Nat × Nat) → (Nat → Nat → Int32) → (Nat → Nat → Int64) → (Nat → Nat → Option Nat) → Unit → hS → Prop} (hkb : x_kb sk base)   (l1i : Int32) (l2l : Int64) (l4i : Int32) (l5i : Int32) (n sl : Nat) (SH : Nat → Nat × Nat) (FI : Nat → Nat → Int32) (FL : Nat → Nat → Int64) (FR : Nat → Nat → Option Nat) (hok : pk n SH FR)  (hK2 : ∀ (l1i : Int32) (l2l : Int64) (l4i : Int32) (l5i : Int32) (n sl : Nat) (SH : Nat → Nat × Nat) (FI : Nat → Nat → Int32) (FL : Nat → Nat → Int64) (FR : Nat → Nat → Option Nat), pk n SH FR → pw pj_V sk base N d none 227 2 [(0, .ref (base + 121)), (1, .int (l1i)), (2, .long (l2l)), (4, .int (l4i)), (5, .int (l5i))] [] (n, sl, SH, FI, FL, FR) (K2 l1i n sl SH FI FL FR)) : pw pj_V sk base N d none 227 262 [(0, .ref (base + 121)), (1, .int (l1i)), (2, .long (l2l)), (4, .int (l4i)), (5, .int (l5i))] [] (n, sl, SH, FI, FL, FR) (RX12_rows_262 K2   n sl SH FI FL FR) := by
  unfold RX12_rows_262
  refine pw_aloadn (aX12_rows 141 rfl) rfl ?_
  refine pw_getr (v := .ref (base + 159)) (aX12_rows 142 rfl) uf_RX12_135 un_RX12_135 (congrArg (fun r => va_rf (h_rf base r)) (q121_80 (hok).2.1)) ?_
  refine pw_aloadn (aX12_rows 143 rfl) rfl ?_
  refine pw_getr (v := .int (FI 121 78)) (aX12_rows 144 rfl) uf_RX12_515 un_RX12_515 rfl ?_
  refine pw_aloadn (aX12_rows 145 rfl) rfl ?_
  refine pw_getr (v := .ref (base + 159)) (aX12_rows 146 rfl) uf_RX12_135 un_RX12_135 (congrArg (fun r => va_rf (h_rf base r)) (q121_80 (hok).2.1)) ?_
  refine pw_aloadn (aX12_rows 147 rfl) rfl ?_
  refine pw_getr (v := .int (FI 121 78)) (aX12_rows 148 rfl) uf_RX12_515 un_RX12_515 rfl ?_
  refine pw_ialdr (c := 159) (ix := (FI 121 78).toInt.toNat) (aX12_rows 149 rfl) rfl (fun _ => ?_)
  refine pw_iconst (v := (1 : Int32)) (aX12_rows 150 rfl) rfl ?_
  refine pw_iadd (aX12_rows 151 rfl) ?_
  refine pw_iastr (c := 159) (ix := (FI 121 78).toInt.toNat) (aX12_rows 152 rfl) rfl (fun _ => ?_)
  refine pw_aloadn (aX12_rows 153 rfl) rfl ?_
  refine pw_getr (v := .int (FI 121 69)) (aX12_rows 154 rfl) uf_RX12_475 un_RX12_475 rfl ?_
  refine pw_ifne (tgt := 302) (aX12_rows 155 rfl) (by decide) (fun b0 => ?_) (fun b0 => ?_)
  · skip
    refine pw_aloadn (aX12_rows 156 rfl) rfl ?_
    refine pw_bipush (v := (44 : Int32)) (aX12_rows 157 rfl) rfl ?_
    refine pw_cf (pw_callV (Bs := [.int ((44 : Int32))]) (rest := []) (aX12_rows 158 rfl) um_RX12_484 ujX12_isSign wc_RX12_484.2.2.2.2 (by decide) (by decide) rfl rfl (fun d => rX12_isSign hkb ((44 : Int32)) n sl SH (h_up FI 159 (FI 121 78).toInt.toNat ((FI 159 (FI 121 78).toInt.toNat) + ((1 : Int32)))) FL FR hok) (fun v1 n1 sl1 SH1 FI1 FL1 FR1 _ hC => ?_))
    obtain ⟨rfl, hC⟩ := hC; cases hC
    show pw _ _ _ _ _ _ _ 295 _ [.int (fX12_isSign ((44 : Int32)) SH (h_up FI 159 (FI 121 78).toInt.toNat ((FI 159 (FI 121 78).toInt.toNat) + ((1 : Int32)))) FL FR)] _ _
    refine pw_ifeq (tgt := 302) (aX12_rows 159 rfl) (by decide) (fun b2 => ?_) (fun b2 => ?_)
    · skip
      exact pw_Li (L2 := [(0, .ref (base + 121)), (1, .int (l1i)), (2, .long (l2l)), (4, .int (l4i)), (5, .int (l5i))]) [0, 1, 2, 3, 4] (rX12_rows_302 hkb  (l1i) (l2l) (l4i) (l5i) n sl SH (h_up FI 159 (FI 121 78).toInt.toNat ((FI 159 (FI 121 78).toInt.toNat) + ((1 : Int32)))) FL FR hok  hK2) ⟨rfl, rfl, rfl, rfl, rfl, trivial⟩
    · skip
      refine pw_iconst (v := (1 : Int32)) (aX12_rows 160 rfl) rfl ?_
      refine pw_goto (tgt := 303) (aX12_rows 161 rfl) (by decide) ?_
      exact pw_Li (L2 := [(0, .ref (base + 121)), (1, .int (l1i)), (2, .long (l2l)), (4, .int (l4i)), (5, .int (l5i))]) [0, 1, 2, 3, 4] (rX12_rows_303 hkb  ((1 : Int32)) (l1i) (l2l) (l4i) (l5i) n sl SH (h_up FI 159 (FI 121 78).toInt.toNat ((FI 159 (FI 121 78).toInt.toNat) + ((1 : Int32)))) FL FR hok  hK2) ⟨rfl, rfl, rfl, rfl, rfl, trivial⟩
  · skip
    exact pw_Li (L2 := [(0, .ref (base + 121)), (1, .int (l1i)), (2, .long (l2l)), (4, .int (l4i)), (5, .int (l5i))]) [0, 1, 2, 3, 4] (rX12_rows_302 hkb  (l1i) (l2l) (l4i) (l5i) n sl SH (h_up FI 159 (FI 121 78).toInt.toNat ((FI 159 (FI 121 78).toInt.toNat) + ((1 : Int32)))) FL FR hok  hK2) ⟨rfl, rfl, rfl, rfl, rfl, trivial⟩
def RX12_rows_140 (K2 : Int32 → Nat → Nat → (Nat → Nat × Nat) → (Nat → Nat → Int32) → (Nat → Nat → Int64) → (Nat → Nat → Option Nat) → Unit → hS → Prop)  (l2l : Int64) (n sl : Nat) (SH : Nat → Nat × Nat) (FI : Nat → Nat → Int32) (FL : Nat → Nat → Int64) (FR : Nat → Nat → Option Nat) : Unit → hS → Prop := (P_if ((FI 121 69).toInt = 0) (P_bi (RX12_emits (l2l) ((8 : Int32)) n sl SH FI FL FR) (fun v1 n1 sl1 SH1 FI1 FL1 FR1 => (P_and (p_in (FI1 121 68) (SH1 150).2) (P_bi (RX12_emits (FL1 150 (FI1 121 68).toInt.toNat) ((8 : Int32)) n1 sl1 SH1 FI1 FL1 FR1) (fun v2 n2 sl2 SH2 FI2 FL2 FR2 => (P_bi (RX12_need ((58 : Int32)) n2 sl2 SH2 (h_up FI2 121 68 ((FI2 121 68) + ((1 : Int32)))) FL2 FR2) (fun v4 n4 sl4 SH4 FI4 FL4 FR4 => (P_bi (RX12_emits ((0 : Int64)) ((2 : Int32)) n4 sl4 SH4 FI4 FL4 FR4) (fun v5 n5 sl5 SH5 FI5 FL5 FR5 => (P_if ((FI5 121 69).toInt = 0) (P_bi (RX12_location  n5 sl5 SH5 FI5 FL5 FR5) (fun v7 n7 sl7 SH7 FI7 FL7 FR7 => (P_if (((4000 : Int32)).toInt < (FI7 121 73).toInt) (RX12_rows_262 K2   n7 sl7 SH7 FI7 FL7 FR7) (P_and (p_in (FI4 121 73) (SH7 154).2) (P_and (p_in ((FI4 121 73) + ((1 : Int32))) (SH7 154).2) (RX12_rows_262 K2   n7 sl7 SH7 (h_up (h_up FI7 154 (FI4 121 73).toInt.toNat ((((FI7 121 73) - (FI4 121 73)) - ((2 : Int32))) &&& ((255 : Int32)))) 154 ((FI4 121 73) + ((1 : Int32))).toInt.toNat (((((FI7 121 73) - (FI4 121 73)) - ((2 : Int32))) >>> (((8 : Int32)) &&& 31)) &&& ((255 : Int32)))) FL7 FR7)))))) (P_ret () (n5, sl5, SH5, FI5, FL5, FR5)))))))))))) (P_ret () (n, sl, SH, FI, FL, FR)))
set_option maxHeartbeats 4000000 in
set_option maxRecDepth 100000 in
theorem rX12_rows_140 {sk : xK} {base N d : Nat} {K2 : Int32 → Nat → Nat → (Nat → Nat × Nat) → (Nat → Nat → Int32) → (Nat → Nat → Int64) → (Nat → Nat → Option Nat) → Unit → hS → Prop} (hkb : x_kb sk base)  (l2l : Int64) (l1i : Int32) (l4i : Int32) (l5i : Int32) (n sl : Nat) (SH : Nat → Nat × Nat) (FI : Nat → Nat → Int32) (FL : Nat → Nat → Int64) (FR : Nat → Nat → Option Nat) (hok : pk n SH FR)  (hK2 : ∀ (l1i : Int32) (l2l : Int64) (l4i : Int32) (l5i : Int32) (n sl : Nat) (SH : Nat → Nat × Nat) (FI : Nat → Nat → Int32) (FL : Nat → Nat → Int64) (FR : Nat → Nat → Option Nat), pk n SH FR → pw pj_V sk base N d none 227 2 [(0, .ref (base + 121)), (1, .int (l1i)), (2, .long (l2l)), (4, .int (l4i)), (5, .int (l5i))] [] (n, sl, SH, FI, FL, FR) (K2 l1i n sl SH FI FL FR)) : pw pj_V sk base N d none 227 140 [(0, .ref (base + 121)), (1, .int (l1i)), (2, .long (l2l)), (4, .int (l4i)), (5, .int (l5i))] [] (n, sl, SH, FI, FL, FR) (RX12_rows_140 K2  l2l n sl SH FI FL FR) := by
  unfold RX12_rows_140
  refine pw_aloadn (aX12_rows 74 rfl) rfl ?_
  refine pw_getr (v := .int (FI 121 69)) (aX12_rows 75 rfl) uf_RX12_475 un_RX12_475 rfl ?_
  refine pw_ifeq (tgt := 148) (aX12_rows 76 rfl) (by decide) (fun b0 => ?_) (fun b0 => ?_)
  · skip
    refine pw_aloadn (aX12_rows 78 rfl) rfl ?_
    refine pw_lloadn (aX12_rows 79 rfl) rfl ?_
    refine pw_bipush (v := (8 : Int32)) (aX12_rows 80 rfl) rfl ?_
    refine pw_callV (Bs := [.long (l2l), .int ((8 : Int32))]) (rest := []) (aX12_rows 81 rfl) um_RX12_505 ujX12_emits wc_RX12_505.2.2.2.2 (by decide) (by decide) rfl rfl (fun d => rX12_emits hkb (l2l) ((8 : Int32)) n sl SH FI FL FR hok) (fun v1 n1 sl1 SH1 FI1 FL1 FR1 hok1 _ => ?_)
    show pw _ _ _ _ _ _ _ 155 _ [] _ _
    refine pw_aloadn (aX12_rows 82 rfl) rfl ?_
    refine pw_aloadn (aX12_rows 83 rfl) rfl ?_
    refine pw_getr (v := .ref (base + 150)) (aX12_rows 84 rfl) uf_RX12_108 un_RX12_108 (congrArg (fun r => va_rf (h_rf base r)) (q121_63 (hok1).2.1)) ?_
    refine pw_aloadn (aX12_rows 85 rfl) rfl ?_
    refine pw_getr (v := .int (FI1 121 68)) (aX12_rows 86 rfl) uf_RX12_478 un_RX12_478 rfl ?_
    refine pw_laldr (c := 150) (ix := (FI1 121 68).toInt.toNat) (aX12_rows 87 rfl) rfl (fun _ => ?_)
    refine pw_bipush (v := (8 : Int32)) (aX12_rows 88 rfl) rfl ?_
    refine pw_callV (Bs := [.long (FL1 150 (FI1 121 68).toInt.toNat), .int ((8 : Int32))]) (rest := []) (aX12_rows 89 rfl) um_RX12_505 ujX12_emits wc_RX12_505.2.2.2.2 (by decide) (by decide) rfl rfl (fun d => rX12_emits hkb (FL1 150 (FI1 121 68).toInt.toNat) ((8 : Int32)) n1 sl1 SH1 FI1 FL1 FR1 hok1) (fun v2 n2 sl2 SH2 FI2 FL2 FR2 hok2 _ => ?_)
    show pw _ _ _ _ _ _ _ 170 _ [] _ _
    refine pw_aloadn (aX12_rows 90 rfl) rfl ?_
    refine pw_aloadn (aX12_rows 91 rfl) rfl ?_
    refine pw_getr (v := .int (FI2 121 68)) (aX12_rows 92 rfl) uf_RX12_478 un_RX12_478 rfl ?_
    refine pw_iconst (v := (1 : Int32)) (aX12_rows 93 rfl) rfl ?_
    refine pw_iadd (aX12_rows 94 rfl) ?_
    refine pw_putri (aX12_rows 95 rfl) uf_RX12_478 (fun _ _ _ => rfl) (fun t4 => ?_)
    refine pw_aloadn (aX12_rows 96 rfl) rfl ?_
    refine pw_bipush (v := (58 : Int32)) (aX12_rows 97 rfl) rfl ?_
    refine pw_callV (Bs := [.int ((58 : Int32))]) (rest := []) (aX12_rows 98 rfl) um_RX12_527 ujX12_need wc_RX12_527.2.2.2.2 (by decide) (by decide) rfl rfl (fun d => rX12_need hkb ((58 : Int32)) n2 sl2 SH2 (h_up FI2 121 68 ((FI2 121 68) + ((1 : Int32)))) FL2 FR2 hok2) (fun v4 n4 sl4 SH4 FI4 FL4 FR4 hok4 _ => ?_)
    show pw _ _ _ _ _ _ _ 186 _ [] _ _
    refine pw_aloadn (aX12_rows 99 rfl) rfl ?_
    refine pw_getr (v := .int (FI4 121 73)) (aX12_rows 100 rfl) uf_RX12_493 un_RX12_493 rfl ?_
    refine pw_istore (L2 := [(4, .int (FI4 121 73)), (0, .ref (base + 121)), (1, .int (l1i)), (2, .long (l2l)), (5, .int (l5i))]) (aX12_rows 101 rfl) rfl ?_
    refine pw_aloadn (aX12_rows 102 rfl) rfl ?_
    refine pw_lconst (v := (0 : Int64)) (aX12_rows 103 rfl) rfl ?_
    refine pw_iconst (v := (2 : Int32)) (aX12_rows 104 rfl) rfl ?_
    refine pw_callV (Bs := [.long ((0 : Int64)), .int ((2 : Int32))]) (rest := []) (aX12_rows 105 rfl) um_RX12_505 ujX12_emits wc_RX12_505.2.2.2.2 (by decide) (by decide) rfl rfl (fun d => rX12_emits hkb ((0 : Int64)) ((2 : Int32)) n4 sl4 SH4 FI4 FL4 FR4 hok4) (fun v5 n5 sl5 SH5 FI5 FL5 FR5 hok5 _ => ?_)
    show pw _ _ _ _ _ _ _ 198 _ [] _ _
    refine pw_aloadn (aX12_rows 106 rfl) rfl ?_
    refine pw_getr (v := .int (FI5 121 69)) (aX12_rows 107 rfl) uf_RX12_475 un_RX12_475 rfl ?_
    refine pw_ifeq (tgt := 206) (aX12_rows 108 rfl) (by decide) (fun b6 => ?_) (fun b6 => ?_)
    · skip
      refine pw_aloadn (aX12_rows 110 rfl) rfl ?_
      refine pw_callV (Bs := []) (rest := []) (aX12_rows 111 rfl) um_RX12_532 ujX12_location wc_RX12_532.2.2.2.2 (by decide) (by decide) rfl rfl (fun d => rX12_location hkb  n5 sl5 SH5 FI5 FL5 FR5 hok5) (fun v7 n7 sl7 SH7 FI7 FL7 FR7 hok7 _ => ?_)
      show pw _ _ _ _ _ _ _ 210 _ [] _ _
      refine pw_aloadn (aX12_rows 112 rfl) rfl ?_
      refine pw_getr (v := .int (FI7 121 73)) (aX12_rows 113 rfl) uf_RX12_493 un_RX12_493 rfl ?_
      refine pw_iload (aX12_rows 114 rfl) rfl ?_
      refine pw_isub (aX12_rows 115 rfl) ?_
      refine pw_iconst (v := (2 : Int32)) (aX12_rows 116 rfl) rfl ?_
      refine pw_isub (aX12_rows 117 rfl) ?_
      refine pw_istore (L2 := [(5, .int (((FI7 121 73) - (FI4 121 73)) - ((2 : Int32)))), (4, .int (FI4 121 73)), (0, .ref (base + 121)), (1, .int (l1i)), (2, .long (l2l))]) (aX12_rows 118 rfl) rfl ?_
      refine pw_aloadn (aX12_rows 119 rfl) rfl ?_
      refine pw_getr (v := .int (FI7 121 73)) (aX12_rows 120 rfl) uf_RX12_493 un_RX12_493 rfl ?_
      refine pw_sipush (v := (4000 : Int32)) (aX12_rows 121 rfl) rfl ?_
      refine pw_icgt (tgt := 262) (aX12_rows 122 rfl) (by decide) (fun b8 => ?_) (fun b8 => ?_)
      · skip
        exact pw_Li (L2 := [(0, .ref (base + 121)), (1, .int (l1i)), (2, .long (l2l)), (4, .int (FI4 121 73)), (5, .int (((FI7 121 73) - (FI4 121 73)) - ((2 : Int32))))]) [4, 3, 0, 1, 2] (rX12_rows_262 hkb  (l1i) (l2l) (FI4 121 73) (((FI7 121 73) - (FI4 121 73)) - ((2 : Int32))) n7 sl7 SH7 FI7 FL7 FR7 hok7  hK2) ⟨rfl, rfl, rfl, rfl, rfl, trivial⟩
      · skip
        refine pw_aloadn (aX12_rows 123 rfl) rfl ?_
        refine pw_getr (v := .ref (base + 154)) (aX12_rows 124 rfl) uf_RX12_120 un_RX12_120 (congrArg (fun r => va_rf (h_rf base r)) (q121_72 (hok7).2.1)) ?_
        refine pw_iload (aX12_rows 125 rfl) rfl ?_
        refine pw_iload (aX12_rows 126 rfl) rfl ?_
        refine pw_sipush (v := (255 : Int32)) (aX12_rows 127 rfl) rfl ?_
        refine pw_iand (aX12_rows 128 rfl) ?_
        refine pw_iastr (c := 154) (ix := (FI4 121 73).toInt.toNat) (aX12_rows 129 rfl) rfl (fun _ => ?_)
        refine pw_aloadn (aX12_rows 130 rfl) rfl ?_
        refine pw_getr (v := .ref (base + 154)) (aX12_rows 131 rfl) uf_RX12_120 un_RX12_120 (congrArg (fun r => va_rf (h_rf base r)) (q121_72 (hok7).2.1)) ?_
        refine pw_iload (aX12_rows 132 rfl) rfl ?_
        refine pw_iconst (v := (1 : Int32)) (aX12_rows 133 rfl) rfl ?_
        refine pw_iadd (aX12_rows 134 rfl) ?_
        refine pw_iload (aX12_rows 135 rfl) rfl ?_
        refine pw_bipush (v := (8 : Int32)) (aX12_rows 136 rfl) rfl ?_
        refine pw_ishr (aX12_rows 137 rfl) ?_
        refine pw_sipush (v := (255 : Int32)) (aX12_rows 138 rfl) rfl ?_
        refine pw_iand (aX12_rows 139 rfl) ?_
        refine pw_iastr (c := 154) (ix := ((FI4 121 73) + ((1 : Int32))).toInt.toNat) (aX12_rows 140 rfl) rfl (fun _ => ?_)
        exact pw_Li (L2 := [(0, .ref (base + 121)), (1, .int (l1i)), (2, .long (l2l)), (4, .int (FI4 121 73)), (5, .int (((FI7 121 73) - (FI4 121 73)) - ((2 : Int32))))]) [4, 3, 0, 1, 2] (rX12_rows_262 hkb  (l1i) (l2l) (FI4 121 73) (((FI7 121 73) - (FI4 121 73)) - ((2 : Int32))) n7 sl7 SH7 (h_up (h_up FI7 154 (FI4 121 73).toInt.toNat ((((FI7 121 73) - (FI4 121 73)) - ((2 : Int32))) &&& ((255 : Int32)))) 154 ((FI4 121 73) + ((1 : Int32))).toInt.toNat (((((FI7 121 73) - (FI4 121 73)) - ((2 : Int32))) >>> (((8 : Int32)) &&& 31)) &&& ((255 : Int32)))) FL7 FR7 hok7  hK2) ⟨rfl, rfl, rfl, rfl, rfl, trivial⟩
    · skip
      exact pw_vret (aX12_rows 109 rfl) hok5
  · skip
    exact pw_vret (aX12_rows 77 rfl) hok
def RX12_rows_114 (K2 : Int32 → Nat → Nat → (Nat → Nat × Nat) → (Nat → Nat → Int32) → (Nat → Nat → Int64) → (Nat → Nat → Option Nat) → Unit → hS → Prop)  (l2l : Int64) (n sl : Nat) (SH : Nat → Nat × Nat) (FI : Nat → Nat → Int32) (FL : Nat → Nat → Int64) (FR : Nat → Nat → Option Nat) : Unit → hS → Prop := (P_if ((FI 121 69).toInt = 0) (P_and (p_in (FI 121 68) (SH 150).2) (P_if ((l2l).toInt < (FL 150 (FI 121 68).toInt.toNat).toInt) (RX12_rows_140 K2  (l2l) n sl SH FI FL FR) (P_bi (RX12_fail ((3 : Int32)) n sl SH FI FL FR) (fun v2 n2 sl2 SH2 FI2 FL2 FR2 => (RX12_rows_140 K2  (l2l) n2 sl2 SH2 FI2 FL2 FR2))))) (RX12_rows_140 K2  (l2l) n sl SH FI FL FR))
set_option maxHeartbeats 4000000 in
set_option maxRecDepth 100000 in
theorem rX12_rows_114 {sk : xK} {base N d : Nat} {K2 : Int32 → Nat → Nat → (Nat → Nat × Nat) → (Nat → Nat → Int32) → (Nat → Nat → Int64) → (Nat → Nat → Option Nat) → Unit → hS → Prop} (hkb : x_kb sk base)  (l2l : Int64) (l1i : Int32) (l4i : Int32) (l5i : Int32) (n sl : Nat) (SH : Nat → Nat × Nat) (FI : Nat → Nat → Int32) (FL : Nat → Nat → Int64) (FR : Nat → Nat → Option Nat) (hok : pk n SH FR)  (hK2 : ∀ (l1i : Int32) (l2l : Int64) (l4i : Int32) (l5i : Int32) (n sl : Nat) (SH : Nat → Nat × Nat) (FI : Nat → Nat → Int32) (FL : Nat → Nat → Int64) (FR : Nat → Nat → Option Nat), pk n SH FR → pw pj_V sk base N d none 227 2 [(0, .ref (base + 121)), (1, .int (l1i)), (2, .long (l2l)), (4, .int (l4i)), (5, .int (l5i))] [] (n, sl, SH, FI, FL, FR) (K2 l1i n sl SH FI FL FR)) : pw pj_V sk base N d none 227 114 [(0, .ref (base + 121)), (1, .int (l1i)), (2, .long (l2l)), (4, .int (l4i)), (5, .int (l5i))] [] (n, sl, SH, FI, FL, FR) (RX12_rows_114 K2  l2l n sl SH FI FL FR) := by
  unfold RX12_rows_114
  refine pw_aloadn (aX12_rows 60 rfl) rfl ?_
  refine pw_getr (v := .int (FI 121 69)) (aX12_rows 61 rfl) uf_RX12_475 un_RX12_475 rfl ?_
  refine pw_ifne (tgt := 140) (aX12_rows 62 rfl) (by decide) (fun b0 => ?_) (fun b0 => ?_)
  · skip
    refine pw_aloadn (aX12_rows 63 rfl) rfl ?_
    refine pw_getr (v := .ref (base + 150)) (aX12_rows 64 rfl) uf_RX12_108 un_RX12_108 (congrArg (fun r => va_rf (h_rf base r)) (q121_63 (hok).2.1)) ?_
    refine pw_aloadn (aX12_rows 65 rfl) rfl ?_
    refine pw_getr (v := .int (FI 121 68)) (aX12_rows 66 rfl) uf_RX12_478 un_RX12_478 rfl ?_
    refine pw_laldr (c := 150) (ix := (FI 121 68).toInt.toNat) (aX12_rows 67 rfl) rfl (fun _ => ?_)
    refine pw_lloadn (aX12_rows 68 rfl) rfl ?_
    refine pw_lcgt (tgt := 140) (aX12_rows 69 rfl) (aX12_rows 70 rfl) (by decide) (fun b1 => ?_) (fun b1 => ?_)
    · skip
      exact pw_Li (L2 := [(0, .ref (base + 121)), (1, .int (l1i)), (2, .long (l2l)), (4, .int (l4i)), (5, .int (l5i))]) [0, 1, 2, 3, 4] (rX12_rows_140 hkb  (l2l) (l1i) (l4i) (l5i) n sl SH FI FL FR hok  hK2) ⟨rfl, rfl, rfl, rfl, rfl, trivial⟩
    · skip
      refine pw_aloadn (aX12_rows 71 rfl) rfl ?_
      refine pw_iconst (v := (3 : Int32)) (aX12_rows 72 rfl) rfl ?_
      refine pw_callV (Bs := [.int ((3 : Int32))]) (rest := []) (aX12_rows 73 rfl) um_RX12_487 ujX12_fail wc_RX12_487.2.2.2.2 (by decide) (by decide) rfl rfl (fun d => rX12_fail hkb ((3 : Int32)) n sl SH FI FL FR hok) (fun v2 n2 sl2 SH2 FI2 FL2 FR2 hok2 _ => ?_)
      show pw _ _ _ _ _ _ _ 140 _ [] _ _
      exact pw_Li (L2 := [(0, .ref (base + 121)), (1, .int (l1i)), (2, .long (l2l)), (4, .int (l4i)), (5, .int (l5i))]) [0, 1, 2, 3, 4] (rX12_rows_140 hkb  (l2l) (l1i) (l4i) (l5i) n2 sl2 SH2 FI2 FL2 FR2 hok2  hK2) ⟨rfl, rfl, rfl, rfl, rfl, trivial⟩
  · skip
    exact pw_Li (L2 := [(0, .ref (base + 121)), (1, .int (l1i)), (2, .long (l2l)), (4, .int (l4i)), (5, .int (l5i))]) [0, 1, 2, 3, 4] (rX12_rows_140 hkb  (l2l) (l1i) (l4i) (l5i) n sl SH FI FL FR hok  hK2) ⟨rfl, rfl, rfl, rfl, rfl, trivial⟩
def RX12_rows_54 (K2 : Int32 → Nat → Nat → (Nat → Nat × Nat) → (Nat → Nat → Int32) → (Nat → Nat → Int64) → (Nat → Nat → Option Nat) → Unit → hS → Prop)   (n sl : Nat) (SH : Nat → Nat × Nat) (FI : Nat → Nat → Int32) (FL : Nat → Nat → Int64) (FR : Nat → Nat → Option Nat) : Unit → hS → Prop := (P_if ((FI 121 69).toInt = 0) (P_and (p_in (FI 121 68) (SH 150).2) (P_bi (RX12_need ((256 : Int32)) n sl SH (h_up FI 121 68 ((FI 121 68) + ((1 : Int32)))) FL FR) (fun v2 n2 sl2 SH2 FI2 FL2 FR2 => (P_if ((FI2 121 69).toInt = 0) (P_and (p_in (FI2 121 68) (SH2 149).2) (P_if ((FI2 149 (FI2 121 68).toInt.toNat).toInt = ((3 : Int32)).toInt) (RX12_rows_114 K2  (FL 150 (FI 121 68).toInt.toNat) n2 sl2 SH2 FI2 FL2 FR2) (P_bi (RX12_fail ((1 : Int32)) n2 sl2 SH2 FI2 FL2 FR2) (fun v5 n5 sl5 SH5 FI5 FL5 FR5 => (RX12_rows_114 K2  (FL 150 (FI 121 68).toInt.toNat) n5 sl5 SH5 FI5 FL5 FR5))))) (RX12_rows_114 K2  (FL 150 (FI 121 68).toInt.toNat) n2 sl2 SH2 FI2 FL2 FR2))))) (P_ret () (n, sl, SH, FI, FL, FR)))
set_option maxHeartbeats 4000000 in
set_option maxRecDepth 100000 in
theorem rX12_rows_54 {sk : xK} {base N d : Nat} {K2 : Int32 → Nat → Nat → (Nat → Nat × Nat) → (Nat → Nat → Int32) → (Nat → Nat → Int64) → (Nat → Nat → Option Nat) → Unit → hS → Prop} (hkb : x_kb sk base)   (l1i : Int32) (l2l : Int64) (l4i : Int32) (l5i : Int32) (n sl : Nat) (SH : Nat → Nat × Nat) (FI : Nat → Nat → Int32) (FL : Nat → Nat → Int64) (FR : Nat → Nat → Option Nat) (hok : pk n SH FR)  (hK2 : ∀ (l1i : Int32) (l2l : Int64) (l4i : Int32) (l5i : Int32) (n sl : Nat) (SH : Nat → Nat × Nat) (FI : Nat → Nat → Int32) (FL : Nat → Nat → Int64) (FR : Nat → Nat → Option Nat), pk n SH FR → pw pj_V sk base N d none 227 2 [(0, .ref (base + 121)), (1, .int (l1i)), (2, .long (l2l)), (4, .int (l4i)), (5, .int (l5i))] [] (n, sl, SH, FI, FL, FR) (K2 l1i n sl SH FI FL FR)) : pw pj_V sk base N d none 227 54 [(0, .ref (base + 121)), (1, .int (l1i)), (2, .long (l2l)), (4, .int (l4i)), (5, .int (l5i))] [] (n, sl, SH, FI, FL, FR) (RX12_rows_54 K2   n sl SH FI FL FR) := by
  unfold RX12_rows_54
  refine pw_aloadn (aX12_rows 28 rfl) rfl ?_
  refine pw_getr (v := .int (FI 121 69)) (aX12_rows 29 rfl) uf_RX12_475 un_RX12_475 rfl ?_
  refine pw_ifeq (tgt := 62) (aX12_rows 30 rfl) (by decide) (fun b0 => ?_) (fun b0 => ?_)
  · skip
    refine pw_aloadn (aX12_rows 32 rfl) rfl ?_
    refine pw_getr (v := .ref (base + 150)) (aX12_rows 33 rfl) uf_RX12_108 un_RX12_108 (congrArg (fun r => va_rf (h_rf base r)) (q121_63 (hok).2.1)) ?_
    refine pw_aloadn (aX12_rows 34 rfl) rfl ?_
    refine pw_getr (v := .int (FI 121 68)) (aX12_rows 35 rfl) uf_RX12_478 un_RX12_478 rfl ?_
    refine pw_laldr (c := 150) (ix := (FI 121 68).toInt.toNat) (aX12_rows 36 rfl) rfl (fun _ => ?_)
    refine pw_lstoren (L2 := [(2, .long (FL 150 (FI 121 68).toInt.toNat)), (0, .ref (base + 121)), (1, .int (l1i)), (4, .int (l4i)), (5, .int (l5i))]) (aX12_rows 37 rfl) rfl ?_
    refine pw_aloadn (aX12_rows 38 rfl) rfl ?_
    refine pw_aloadn (aX12_rows 39 rfl) rfl ?_
    refine pw_getr (v := .int (FI 121 68)) (aX12_rows 40 rfl) uf_RX12_478 un_RX12_478 rfl ?_
    refine pw_iconst (v := (1 : Int32)) (aX12_rows 41 rfl) rfl ?_
    refine pw_iadd (aX12_rows 42 rfl) ?_
    refine pw_putri (aX12_rows 43 rfl) uf_RX12_478 (fun _ _ _ => rfl) (fun t2 => ?_)
    refine pw_aloadn (aX12_rows 44 rfl) rfl ?_
    refine pw_sipush (v := (256 : Int32)) (aX12_rows 45 rfl) rfl ?_
    refine pw_callV (Bs := [.int ((256 : Int32))]) (rest := []) (aX12_rows 46 rfl) um_RX12_527 ujX12_need wc_RX12_527.2.2.2.2 (by decide) (by decide) rfl rfl (fun d => rX12_need hkb ((256 : Int32)) n sl SH (h_up FI 121 68 ((FI 121 68) + ((1 : Int32)))) FL FR hok) (fun v2 n2 sl2 SH2 FI2 FL2 FR2 hok2 _ => ?_)
    show pw _ _ _ _ _ _ _ 89 _ [] _ _
    refine pw_aloadn (aX12_rows 47 rfl) rfl ?_
    refine pw_getr (v := .int (FI2 121 69)) (aX12_rows 48 rfl) uf_RX12_475 un_RX12_475 rfl ?_
    refine pw_ifne (tgt := 114) (aX12_rows 49 rfl) (by decide) (fun b3 => ?_) (fun b3 => ?_)
    · skip
      refine pw_aloadn (aX12_rows 50 rfl) rfl ?_
      refine pw_getr (v := .ref (base + 149)) (aX12_rows 51 rfl) uf_RX12_105 un_RX12_105 (congrArg (fun r => va_rf (h_rf base r)) (q121_62 (hok2).2.1)) ?_
      refine pw_aloadn (aX12_rows 52 rfl) rfl ?_
      refine pw_getr (v := .int (FI2 121 68)) (aX12_rows 53 rfl) uf_RX12_478 un_RX12_478 rfl ?_
      refine pw_ialdr (c := 149) (ix := (FI2 121 68).toInt.toNat) (aX12_rows 54 rfl) rfl (fun _ => ?_)
      refine pw_iconst (v := (3 : Int32)) (aX12_rows 55 rfl) rfl ?_
      refine pw_iceq (tgt := 114) (aX12_rows 56 rfl) (by decide) (fun b4 => ?_) (fun b4 => ?_)
      · skip
        exact pw_Li (L2 := [(0, .ref (base + 121)), (1, .int (l1i)), (2, .long (FL 150 (FI 121 68).toInt.toNat)), (4, .int (l4i)), (5, .int (l5i))]) [2, 0, 1, 3, 4] (rX12_rows_114 hkb  (FL 150 (FI 121 68).toInt.toNat) (l1i) (l4i) (l5i) n2 sl2 SH2 FI2 FL2 FR2 hok2  hK2) ⟨rfl, rfl, rfl, rfl, rfl, trivial⟩
      · skip
        refine pw_aloadn (aX12_rows 57 rfl) rfl ?_
        refine pw_iconst (v := (1 : Int32)) (aX12_rows 58 rfl) rfl ?_
        refine pw_callV (Bs := [.int ((1 : Int32))]) (rest := []) (aX12_rows 59 rfl) um_RX12_487 ujX12_fail wc_RX12_487.2.2.2.2 (by decide) (by decide) rfl rfl (fun d => rX12_fail hkb ((1 : Int32)) n2 sl2 SH2 FI2 FL2 FR2 hok2) (fun v5 n5 sl5 SH5 FI5 FL5 FR5 hok5 _ => ?_)
        show pw _ _ _ _ _ _ _ 114 _ [] _ _
        exact pw_Li (L2 := [(0, .ref (base + 121)), (1, .int (l1i)), (2, .long (FL 150 (FI 121 68).toInt.toNat)), (4, .int (l4i)), (5, .int (l5i))]) [2, 0, 1, 3, 4] (rX12_rows_114 hkb  (FL 150 (FI 121 68).toInt.toNat) (l1i) (l4i) (l5i) n5 sl5 SH5 FI5 FL5 FR5 hok5  hK2) ⟨rfl, rfl, rfl, rfl, rfl, trivial⟩
    · skip
      exact pw_Li (L2 := [(0, .ref (base + 121)), (1, .int (l1i)), (2, .long (FL 150 (FI 121 68).toInt.toNat)), (4, .int (l4i)), (5, .int (l5i))]) [2, 0, 1, 3, 4] (rX12_rows_114 hkb  (FL 150 (FI 121 68).toInt.toNat) (l1i) (l4i) (l5i) n2 sl2 SH2 FI2 FL2 FR2 hok2  hK2) ⟨rfl, rfl, rfl, rfl, rfl, trivial⟩
  · skip
    exact pw_vret (aX12_rows 31 rfl) hok
def BX12_rows_2 (K2 : Int32 → Nat → Nat → (Nat → Nat × Nat) → (Nat → Nat → Int32) → (Nat → Nat → Int64) → (Nat → Nat → Option Nat) → Unit → hS → Prop)  (l1i : Int32) (n sl : Nat) (SH : Nat → Nat × Nat) (FI : Nat → Nat → Int32) (FL : Nat → Nat → Int64) (FR : Nat → Nat → Option Nat) : Unit → hS → Prop := (P_if ((l1i).toInt = 0) (P_bi (RX12_emits ((0 : Int64)) ((8 : Int32)) n sl SH FI FL FR) (fun v1 n1 sl1 SH1 FI1 FL1 FR1 => (P_bi (RX12_emits ((0 : Int64)) ((8 : Int32)) n1 sl1 SH1 FI1 FL1 FR1) (fun v2 n2 sl2 SH2 FI2 FL2 FR2 => (P_ret () (n2, sl2, SH2, FI2, FL2, FR2)))))) (P_if ((FI 121 69).toInt = 0) (P_and (p_in (FI 121 68) (SH 149).2) (P_if ((FI 149 (FI 121 68).toInt.toNat).toInt = ((3 : Int32)).toInt) (P_and (p_in (FI 121 78) (SH 159).2) (P_if ((FI 159 (FI 121 78).toInt.toNat).toInt = ((8 : Int32)).toInt) (P_bi (RX12_fail ((6 : Int32)) n sl SH FI FL FR) (fun v6 n6 sl6 SH6 FI6 FL6 FR6 => (RX12_rows_54 K2   n6 sl6 SH6 FI6 FL6 FR6))) (RX12_rows_54 K2   n sl SH FI FL FR))) (P_bi (RX12_fail ((1 : Int32)) n sl SH FI FL FR) (fun v7 n7 sl7 SH7 FI7 FL7 FR7 => (RX12_rows_54 K2   n7 sl7 SH7 FI7 FL7 FR7))))) (P_bi (RX12_emits ((0 : Int64)) ((8 : Int32)) n sl SH FI FL FR) (fun v8 n8 sl8 SH8 FI8 FL8 FR8 => (P_bi (RX12_emits ((0 : Int64)) ((8 : Int32)) n8 sl8 SH8 FI8 FL8 FR8) (fun v9 n9 sl9 SH9 FI9 FL9 FR9 => (P_ret () (n9, sl9, SH9, FI9, FL9, FR9))))))))
set_option maxHeartbeats 4000000 in
set_option maxRecDepth 100000 in
theorem bX12_rows_2 {sk : xK} {base N d : Nat} {K2 : Int32 → Nat → Nat → (Nat → Nat × Nat) → (Nat → Nat → Int32) → (Nat → Nat → Int64) → (Nat → Nat → Option Nat) → Unit → hS → Prop} (hkb : x_kb sk base)  (l1i : Int32) (l2l : Int64) (l4i : Int32) (l5i : Int32) (n sl : Nat) (SH : Nat → Nat × Nat) (FI : Nat → Nat → Int32) (FL : Nat → Nat → Int64) (FR : Nat → Nat → Option Nat) (hok : pk n SH FR)  (hK2 : ∀ (l1i : Int32) (l2l : Int64) (l4i : Int32) (l5i : Int32) (n sl : Nat) (SH : Nat → Nat × Nat) (FI : Nat → Nat → Int32) (FL : Nat → Nat → Int64) (FR : Nat → Nat → Option Nat), pk n SH FR → pw pj_V sk base N d none 227 2 [(0, .ref (base + 121)), (1, .int (l1i)), (2, .long (l2l)), (4, .int (l4i)), (5, .int (l5i))] [] (n, sl, SH, FI, FL, FR) (K2 l1i n sl SH FI FL FR)) : pw pj_V sk base (N + 1) d none 227 2 [(0, .ref (base + 121)), (1, .int (l1i)), (2, .long (l2l)), (4, .int (l4i)), (5, .int (l5i))] [] (n, sl, SH, FI, FL, FR) (BX12_rows_2 K2  l1i n sl SH FI FL FR) := by
  unfold BX12_rows_2
  refine pd_iloadn (aX12_rows 2 rfl) rfl ?_
  refine pw_ifeq (tgt := 321) (aX12_rows 3 rfl) (by decide) (fun b0 => ?_) (fun b0 => ?_)
  · skip
    refine pw_aloadn (aX12_rows 173 rfl) rfl ?_
    refine pw_lconst (v := (0 : Int64)) (aX12_rows 174 rfl) rfl ?_
    refine pw_bipush (v := (8 : Int32)) (aX12_rows 175 rfl) rfl ?_
    refine pw_callV (Bs := [.long ((0 : Int64)), .int ((8 : Int32))]) (rest := []) (aX12_rows 176 rfl) um_RX12_505 ujX12_emits wc_RX12_505.2.2.2.2 (by decide) (by decide) rfl rfl (fun d => rX12_emits hkb ((0 : Int64)) ((8 : Int32)) n sl SH FI FL FR hok) (fun v1 n1 sl1 SH1 FI1 FL1 FR1 hok1 _ => ?_)
    show pw _ _ _ _ _ _ _ 328 _ [] _ _
    refine pw_aloadn (aX12_rows 177 rfl) rfl ?_
    refine pw_lconst (v := (0 : Int64)) (aX12_rows 178 rfl) rfl ?_
    refine pw_bipush (v := (8 : Int32)) (aX12_rows 179 rfl) rfl ?_
    refine pw_callV (Bs := [.long ((0 : Int64)), .int ((8 : Int32))]) (rest := []) (aX12_rows 180 rfl) um_RX12_505 ujX12_emits wc_RX12_505.2.2.2.2 (by decide) (by decide) rfl rfl (fun d => rX12_emits hkb ((0 : Int64)) ((8 : Int32)) n1 sl1 SH1 FI1 FL1 FR1 hok1) (fun v2 n2 sl2 SH2 FI2 FL2 FR2 hok2 _ => ?_)
    show pw _ _ _ _ _ _ _ 335 _ [] _ _
    exact pw_vret (aX12_rows 181 rfl) hok2
  · skip
    refine pw_aloadn (aX12_rows 4 rfl) rfl ?_
    refine pw_getr (v := .int (FI 121 69)) (aX12_rows 5 rfl) uf_RX12_475 un_RX12_475 rfl ?_
    refine pw_ifne (tgt := 321) (aX12_rows 6 rfl) (by decide) (fun b3 => ?_) (fun b3 => ?_)
    · skip
      refine pw_aloadn (aX12_rows 7 rfl) rfl ?_
      refine pw_getr (v := .ref (base + 149)) (aX12_rows 8 rfl) uf_RX12_105 un_RX12_105 (congrArg (fun r => va_rf (h_rf base r)) (q121_62 (hok).2.1)) ?_
      refine pw_aloadn (aX12_rows 9 rfl) rfl ?_
      refine pw_getr (v := .int (FI 121 68)) (aX12_rows 10 rfl) uf_RX12_478 un_RX12_478 rfl ?_
      refine pw_ialdr (c := 149) (ix := (FI 121 68).toInt.toNat) (aX12_rows 11 rfl) rfl (fun _ => ?_)
      refine pw_iconst (v := (3 : Int32)) (aX12_rows 12 rfl) rfl ?_
      refine pw_iceq (tgt := 34) (aX12_rows 13 rfl) (by decide) (fun b4 => ?_) (fun b4 => ?_)
      · skip
        refine pw_aloadn (aX12_rows 18 rfl) rfl ?_
        refine pw_getr (v := .ref (base + 159)) (aX12_rows 19 rfl) uf_RX12_135 un_RX12_135 (congrArg (fun r => va_rf (h_rf base r)) (q121_80 (hok).2.1)) ?_
        refine pw_aloadn (aX12_rows 20 rfl) rfl ?_
        refine pw_getr (v := .int (FI 121 78)) (aX12_rows 21 rfl) uf_RX12_515 un_RX12_515 rfl ?_
        refine pw_ialdr (c := 159) (ix := (FI 121 78).toInt.toNat) (aX12_rows 22 rfl) rfl (fun _ => ?_)
        refine pw_bipush (v := (8 : Int32)) (aX12_rows 23 rfl) rfl ?_
        refine pw_icne (tgt := 54) (aX12_rows 24 rfl) (by decide) (fun b5 => ?_) (fun b5 => ?_)
        · skip
          refine pw_aloadn (aX12_rows 25 rfl) rfl ?_
          refine pw_bipush (v := (6 : Int32)) (aX12_rows 26 rfl) rfl ?_
          refine pw_callV (Bs := [.int ((6 : Int32))]) (rest := []) (aX12_rows 27 rfl) um_RX12_487 ujX12_fail wc_RX12_487.2.2.2.2 (by decide) (by decide) rfl rfl (fun d => rX12_fail hkb ((6 : Int32)) n sl SH FI FL FR hok) (fun v6 n6 sl6 SH6 FI6 FL6 FR6 hok6 _ => ?_)
          show pw _ _ _ _ _ _ _ 54 _ [] _ _
          exact pw_Li (L2 := [(0, .ref (base + 121)), (1, .int (l1i)), (2, .long (l2l)), (4, .int (l4i)), (5, .int (l5i))]) [0, 1, 2, 3, 4] (rX12_rows_54 hkb  (l1i) (l2l) (l4i) (l5i) n6 sl6 SH6 FI6 FL6 FR6 hok6  hK2) ⟨rfl, rfl, rfl, rfl, rfl, trivial⟩
        · skip
          exact pw_Li (L2 := [(0, .ref (base + 121)), (1, .int (l1i)), (2, .long (l2l)), (4, .int (l4i)), (5, .int (l5i))]) [0, 1, 2, 3, 4] (rX12_rows_54 hkb  (l1i) (l2l) (l4i) (l5i) n sl SH FI FL FR hok  hK2) ⟨rfl, rfl, rfl, rfl, rfl, trivial⟩
      · skip
        refine pw_aloadn (aX12_rows 14 rfl) rfl ?_
        refine pw_iconst (v := (1 : Int32)) (aX12_rows 15 rfl) rfl ?_
        refine pw_callV (Bs := [.int ((1 : Int32))]) (rest := []) (aX12_rows 16 rfl) um_RX12_487 ujX12_fail wc_RX12_487.2.2.2.2 (by decide) (by decide) rfl rfl (fun d => rX12_fail hkb ((1 : Int32)) n sl SH FI FL FR hok) (fun v7 n7 sl7 SH7 FI7 FL7 FR7 hok7 _ => ?_)
        show pw _ _ _ _ _ _ _ 31 _ [] _ _
        refine pw_goto (tgt := 54) (aX12_rows 17 rfl) (by decide) ?_
        exact pw_Li (L2 := [(0, .ref (base + 121)), (1, .int (l1i)), (2, .long (l2l)), (4, .int (l4i)), (5, .int (l5i))]) [0, 1, 2, 3, 4] (rX12_rows_54 hkb  (l1i) (l2l) (l4i) (l5i) n7 sl7 SH7 FI7 FL7 FR7 hok7  hK2) ⟨rfl, rfl, rfl, rfl, rfl, trivial⟩
    · skip
      refine pw_aloadn (aX12_rows 173 rfl) rfl ?_
      refine pw_lconst (v := (0 : Int64)) (aX12_rows 174 rfl) rfl ?_
      refine pw_bipush (v := (8 : Int32)) (aX12_rows 175 rfl) rfl ?_
      refine pw_callV (Bs := [.long ((0 : Int64)), .int ((8 : Int32))]) (rest := []) (aX12_rows 176 rfl) um_RX12_505 ujX12_emits wc_RX12_505.2.2.2.2 (by decide) (by decide) rfl rfl (fun d => rX12_emits hkb ((0 : Int64)) ((8 : Int32)) n sl SH FI FL FR hok) (fun v8 n8 sl8 SH8 FI8 FL8 FR8 hok8 _ => ?_)
      show pw _ _ _ _ _ _ _ 328 _ [] _ _
      refine pw_aloadn (aX12_rows 177 rfl) rfl ?_
      refine pw_lconst (v := (0 : Int64)) (aX12_rows 178 rfl) rfl ?_
      refine pw_bipush (v := (8 : Int32)) (aX12_rows 179 rfl) rfl ?_
      refine pw_callV (Bs := [.long ((0 : Int64)), .int ((8 : Int32))]) (rest := []) (aX12_rows 180 rfl) um_RX12_505 ujX12_emits wc_RX12_505.2.2.2.2 (by decide) (by decide) rfl rfl (fun d => rX12_emits hkb ((0 : Int64)) ((8 : Int32)) n8 sl8 SH8 FI8 FL8 FR8 hok8) (fun v9 n9 sl9 SH9 FI9 FL9 FR9 hok9 _ => ?_)
      show pw _ _ _ _ _ _ _ 335 _ [] _ _
      exact pw_vret (aX12_rows 181 rfl) hok9
def GX12_rows_2   : Nat → Int32 → Nat → Nat → (Nat → Nat × Nat) → (Nat → Nat → Int32) → (Nat → Nat → Int64) → (Nat → Nat → Option Nat) → Unit → hS → Prop
  | 0, _, _, _, _, _, _, _ => fun _ _ => False
  | g + 1, l1i, n, sl, SH, FI, FL, FR => BX12_rows_2  (GX12_rows_2   g)  l1i n sl SH FI FL FR
def RX12_rows_2   (l1i : Int32) (n sl : Nat) (SH : Nat → Nat × Nat) (FI : Nat → Nat → Int32) (FL : Nat → Nat → Int64) (FR : Nat → Nat → Option Nat) : Unit → hS → Prop := fun v s => ∃ g, GX12_rows_2   g l1i n sl SH FI FL FR v s
theorem gX12_rows_2 {sk : xK} {base d : Nat}  (hkb : x_kb sk base)  (N : Nat) :  ∀ (l1i : Int32) (l2l : Int64) (l4i : Int32) (l5i : Int32) (n sl : Nat) (SH : Nat → Nat × Nat) (FI : Nat → Nat → Int32) (FL : Nat → Nat → Int64) (FR : Nat → Nat → Option Nat), pk n SH FR → pw pj_V sk base N d none 227 2 [(0, .ref (base + 121)), (1, .int (l1i)), (2, .long (l2l)), (4, .int (l4i)), (5, .int (l5i))] [] (n, sl, SH, FI, FL, FR) (GX12_rows_2   (N + 1) l1i n sl SH FI FL FR) := by
  induction N with
  | zero => intros; exact pw_0
  | succ N ih => intro   l1i l2l l4i l5i n sl SH FI FL FR hok; exact bX12_rows_2 hkb  l1i l2l l4i l5i n sl SH FI FL FR hok  (ih  )
theorem rX12_rows_2 {sk : xK} {base N d : Nat}  (hkb : x_kb sk base)  (l1i : Int32) (l2l : Int64) (l4i : Int32) (l5i : Int32) (n sl : Nat) (SH : Nat → Nat × Nat) (FI : Nat → Nat → Int32) (FL : Nat → Nat → Int64) (FR : Nat → Nat → Option Nat) (hok : pk n SH FR)   : pw pj_V sk base N d none 227 2 [(0, .ref (base + 121)), (1, .int (l1i)), (2, .long (l2l)), (4, .int (l4i)), (5, .int (l5i))] [] (n, sl, SH, FI, FL, FR) (RX12_rows_2   l1i n sl SH FI FL FR) := pw_cons (gX12_rows_2 hkb  N   l1i l2l l4i l5i n sl SH FI FL FR hok) (fun _ _ h => ⟨_, h⟩)
def RX12_rows  (n sl : Nat) (SH : Nat → Nat × Nat) (FI : Nat → Nat → Int32) (FL : Nat → Nat → Int64) (FR : Nat → Nat → Option Nat) : Unit → hS → Prop := (RX12_rows_2   ((1 : Int32)) n sl SH FI FL FR)
set_option maxHeartbeats 4000000 in
set_option maxRecDepth 100000 in
theorem rX12_rows {sk : xK} {base N d : Nat} (hkb : x_kb sk base)  (n sl : Nat) (SH : Nat → Nat × Nat) (FI : Nat → Nat → Int32) (FL : Nat → Nat → Int64) (FR : Nat → Nat → Option Nat) (hok : pk n SH FR)  : pw pj_V sk base N d none 227 0 [(0, .ref (base + 121))] [] (n, sl, SH, FI, FL, FR) (RX12_rows  n sl SH FI FL FR) := by
  unfold RX12_rows
  refine pw_iconst (v := (1 : Int32)) (aX12_rows 0 rfl) rfl ?_
  refine pw_istoren (L2 := [(1, .int ((1 : Int32))), (0, .ref (base + 121))]) (aX12_rows 1 rfl) rfl ?_
  exact pw_Li (L2 := [(0, .ref (base + 121)), (1, .int ((1 : Int32))), (2, .long 0), (4, .int 0), (5, .int 0)]) [1, 0] (rX12_rows_2 hkb  ((1 : Int32)) 0 0 0 n sl SH FI FL FR hok  ) ⟨rfl, rfl, trivial⟩
def RX12_declared_53 (K21 : Int32 → Nat → Nat → (Nat → Nat × Nat) → (Nat → Nat → Int32) → (Nat → Nat → Int64) → (Nat → Nat → Option Nat) → Unit → hS → Prop)  (l1i : Int32) (n sl : Nat) (SH : Nat → Nat × Nat) (FI : Nat → Nat → Int32) (FL : Nat → Nat → Int64) (FR : Nat → Nat → Option Nat) : Unit → hS → Prop := (K21 ((l1i) + (1 : Int32)) n sl SH FI FL FR)
set_option maxHeartbeats 4000000 in
set_option maxRecDepth 100000 in
theorem rX12_declared_53 {sk : xK} {base N d : Nat} {K21 : Int32 → Nat → Nat → (Nat → Nat × Nat) → (Nat → Nat → Int32) → (Nat → Nat → Int64) → (Nat → Nat → Option Nat) → Unit → hS → Prop} (hkb : x_kb sk base)  (l1i : Int32)  (n sl : Nat) (SH : Nat → Nat × Nat) (FI : Nat → Nat → Int32) (FL : Nat → Nat → Int64) (FR : Nat → Nat → Option Nat) (hok : pk n SH FR)  (hK21 : ∀ (l1i : Int32) (n sl : Nat) (SH : Nat → Nat × Nat) (FI : Nat → Nat → Int32) (FL : Nat → Nat → Int64) (FR : Nat → Nat → Option Nat), pk n SH FR → pw pj_V sk base N d none 226 21 [(0, .ref (base + 121)), (1, .int (l1i))] [] (n, sl, SH, FI, FL, FR) (K21 l1i n sl SH FI FL FR)) : pw pj_V sk base N d none 226 53 [(0, .ref (base + 121)), (1, .int (l1i))] [] (n, sl, SH, FI, FL, FR) (RX12_declared_53 K21  l1i n sl SH FI FL FR) := by
  unfold RX12_declared_53
  refine pw_iinc (v := (l1i) + (1 : Int32)) (L2 := [(1, .int ((l1i) + (1 : Int32))), (0, .ref (base + 121))]) (aX12_declared 31 rfl) rfl rfl rfl ?_
  refine pw_goto (tgt := 21) (aX12_declared 32 rfl) (by decide) ?_
  exact pw_Li (L2 := [(0, .ref (base + 121)), (1, .int ((l1i) + (1 : Int32)))]) [1, 0] (hK21 ((l1i) + (1 : Int32)) n sl SH FI FL FR hok) ⟨rfl, rfl, trivial⟩
def RX12_declared_223    (n sl : Nat) (SH : Nat → Nat × Nat) (FI : Nat → Nat → Int32) (FL : Nat → Nat → Int64) (FR : Nat → Nat → Option Nat) : Unit → hS → Prop := (P_bi (RX12_need ((59 : Int32)) n sl SH FI FL FR) (fun v0 n0 sl0 SH0 FI0 FL0 FR0 => (P_and (p_in ((FI0 121 78) + ((1 : Int32))) (SH0 161).2) (P_ret () (n0, sl0, SH0, (h_up (h_up FI0 121 78 ((FI0 121 78) + ((1 : Int32)))) 161 ((FI0 121 78) + ((1 : Int32))).toInt.toNat (FI0 121 73)), FL0, FR0)))))
set_option maxHeartbeats 4000000 in
set_option maxRecDepth 100000 in
theorem rX12_declared_223 {sk : xK} {base N d : Nat}  (hkb : x_kb sk base)   (l1i : Int32) (n sl : Nat) (SH : Nat → Nat × Nat) (FI : Nat → Nat → Int32) (FL : Nat → Nat → Int64) (FR : Nat → Nat → Option Nat) (hok : pk n SH FR)   : pw pj_V sk base N d none 226 223 [(0, .ref (base + 121)), (1, .int (l1i))] [] (n, sl, SH, FI, FL, FR) (RX12_declared_223    n sl SH FI FL FR) := by
  unfold RX12_declared_223
  refine pw_aloadn (aX12_declared 120 rfl) rfl ?_
  refine pw_bipush (v := (59 : Int32)) (aX12_declared 121 rfl) rfl ?_
  refine pw_callV (Bs := [.int ((59 : Int32))]) (rest := []) (aX12_declared 122 rfl) um_RX12_527 ujX12_need wc_RX12_527.2.2.2.2 (by decide) (by decide) rfl rfl (fun d => rX12_need hkb ((59 : Int32)) n sl SH FI FL FR hok) (fun v0 n0 sl0 SH0 FI0 FL0 FR0 hok0 _ => ?_)
  show pw _ _ _ _ _ _ _ 229 _ [] _ _
  refine pw_aloadn (aX12_declared 123 rfl) rfl ?_
  refine pw_aloadn (aX12_declared 124 rfl) rfl ?_
  refine pw_getr (v := .int (FI0 121 78)) (aX12_declared 125 rfl) uf_RX12_515 un_RX12_515 rfl ?_
  refine pw_iconst (v := (1 : Int32)) (aX12_declared 126 rfl) rfl ?_
  refine pw_iadd (aX12_declared 127 rfl) ?_
  refine pw_putri (aX12_declared 128 rfl) uf_RX12_515 (fun _ _ _ => rfl) (fun t2 => ?_)
  refine pw_aloadn (aX12_declared 129 rfl) rfl ?_
  refine pw_getr (v := .ref (base + 161)) (aX12_declared 130 rfl) uf_RX12_141 un_RX12_141 (congrArg (fun r => va_rf (h_rf base r)) (q121_82 (hok0).2.1)) ?_
  refine pw_aloadn (aX12_declared 131 rfl) rfl ?_
  refine pw_getr (v := .int ((FI0 121 78) + ((1 : Int32)))) (aX12_declared 132 rfl) uf_RX12_515 un_RX12_515 rfl ?_
  refine pw_aloadn (aX12_declared 133 rfl) rfl ?_
  refine pw_getr (v := .int (FI0 121 73)) (aX12_declared 134 rfl) uf_RX12_493 un_RX12_493 rfl ?_
  refine pw_iastr (c := 161) (ix := ((FI0 121 78) + ((1 : Int32))).toInt.toNat) (aX12_declared 135 rfl) rfl (fun _ => ?_)
  exact pw_vret (aX12_declared 136 rfl) hok0
def RX12_declared_212    (n sl : Nat) (SH : Nat → Nat × Nat) (FI : Nat → Nat → Int32) (FL : Nat → Nat → Int64) (FR : Nat → Nat → Option Nat) : Unit → hS → Prop := (P_if ((FI 121 69).toInt = 0) (P_bi (RX12_location  n sl SH FI FL FR) (fun v1 n1 sl1 SH1 FI1 FL1 FR1 => (RX12_declared_223    n1 sl1 SH1 FI1 FL1 FR1))) (RX12_declared_223    n sl SH FI FL FR))
set_option maxHeartbeats 4000000 in
set_option maxRecDepth 100000 in
theorem rX12_declared_212 {sk : xK} {base N d : Nat}  (hkb : x_kb sk base)   (l1i : Int32) (n sl : Nat) (SH : Nat → Nat × Nat) (FI : Nat → Nat → Int32) (FL : Nat → Nat → Int64) (FR : Nat → Nat → Option Nat) (hok : pk n SH FR)   : pw pj_V sk base N d none 226 212 [(0, .ref (base + 121)), (1, .int (l1i))] [] (n, sl, SH, FI, FL, FR) (RX12_declared_212    n sl SH FI FL FR) := by
  unfold RX12_declared_212
  refine pw_aloadn (aX12_declared 115 rfl) rfl ?_
  refine pw_getr (v := .int (FI 121 69)) (aX12_declared 116 rfl) uf_RX12_475 un_RX12_475 rfl ?_
  refine pw_ifne (tgt := 223) (aX12_declared 117 rfl) (by decide) (fun b0 => ?_) (fun b0 => ?_)
  · skip
    refine pw_aloadn (aX12_declared 118 rfl) rfl ?_
    refine pw_callV (Bs := []) (rest := []) (aX12_declared 119 rfl) um_RX12_532 ujX12_location wc_RX12_532.2.2.2.2 (by decide) (by decide) rfl rfl (fun d => rX12_location hkb  n sl SH FI FL FR hok) (fun v1 n1 sl1 SH1 FI1 FL1 FR1 hok1 _ => ?_)
    show pw _ _ _ _ _ _ _ 223 _ [] _ _
    exact pw_Li (L2 := [(0, .ref (base + 121)), (1, .int (l1i))]) [0, 1] (rX12_declared_223 hkb  (l1i) n1 sl1 SH1 FI1 FL1 FR1 hok1  ) ⟨rfl, rfl, trivial⟩
  · skip
    exact pw_Li (L2 := [(0, .ref (base + 121)), (1, .int (l1i))]) [0, 1] (rX12_declared_223 hkb  (l1i) n sl SH FI FL FR hok  ) ⟨rfl, rfl, trivial⟩
def RX12_declared_74    (n sl : Nat) (SH : Nat → Nat × Nat) (FI : Nat → Nat → Int32) (FL : Nat → Nat → Int64) (FR : Nat → Nat → Option Nat) : Unit → hS → Prop := (P_if ((FI 121 69).toInt = 0) (P_and (p_in (FI 121 68) (SH 150).2) (P_and (p_in (FI 121 78) (SH 158).2) (P_and (p_in (FI 121 68) (SH 151).2) (P_and (p_in (FI 121 78) (SH 162).2) (P_and (p_in (FI 121 78) (SH 161).2) (P_and (p_in (FI 121 78) (SH 159).2) (P_and (p_in (FI 121 78) (SH 163).2) (P_bi (RX12_need ((61 : Int32)) n sl SH (h_up (h_up (h_up (h_up (h_up FI 162 (FI 121 78).toInt.toNat (FI 151 (FI 121 68).toInt.toNat)) 161 (FI 121 78).toInt.toNat (FI 121 73)) 159 (FI 121 78).toInt.toNat ((0 : Int32))) 163 (FI 121 78).toInt.toNat (vp_nar .boolean ((0 : Int32)))) 121 68 ((FI 121 68) + ((1 : Int32)))) (h_up FL 158 (FI 121 78).toInt.toNat (FL 150 (FI 121 68).toInt.toNat)) FR) (fun v2 n2 sl2 SH2 FI2 FL2 FR2 => (P_and (p_in (FI2 121 78) (SH2 160).2) (P_if ((FI2 121 69).toInt = 0) (P_and (p_in (FI2 121 68) (SH2 149).2) (P_if ((FI2 149 (FI2 121 68).toInt.toNat).toInt = ((3 : Int32)).toInt) (P_bi (RX12_rows  n2 sl2 SH2 (h_up (h_up FI2 160 (FI2 121 78).toInt.toNat (FI2 121 68)) 121 71 ((0 : Int32))) FL2 FR2) (fun v6 n6 sl6 SH6 FI6 FL6 FR6 => (RX12_declared_223    n6 sl6 SH6 FI6 FL6 FR6))) (RX12_declared_212    n2 sl2 SH2 (h_up (h_up FI2 160 (FI2 121 78).toInt.toNat (FI2 121 68)) 121 71 ((0 : Int32))) FL2 FR2))) (RX12_declared_212    n2 sl2 SH2 (h_up (h_up FI2 160 (FI2 121 78).toInt.toNat (FI2 121 68)) 121 71 ((0 : Int32))) FL2 FR2)))))))))))) (P_ret () (n, sl, SH, FI, FL, FR)))
set_option maxHeartbeats 4000000 in
set_option maxRecDepth 100000 in
theorem rX12_declared_74 {sk : xK} {base N d : Nat}  (hkb : x_kb sk base)   (l1i : Int32) (n sl : Nat) (SH : Nat → Nat × Nat) (FI : Nat → Nat → Int32) (FL : Nat → Nat → Int64) (FR : Nat → Nat → Option Nat) (hok : pk n SH FR)   : pw pj_V sk base N d none 226 74 [(0, .ref (base + 121)), (1, .int (l1i))] [] (n, sl, SH, FI, FL, FR) (RX12_declared_74    n sl SH FI FL FR) := by
  unfold RX12_declared_74
  refine pw_aloadn (aX12_declared 40 rfl) rfl ?_
  refine pw_getr (v := .int (FI 121 69)) (aX12_declared 41 rfl) uf_RX12_475 un_RX12_475 rfl ?_
  refine pw_ifeq (tgt := 82) (aX12_declared 42 rfl) (by decide) (fun b0 => ?_) (fun b0 => ?_)
  · skip
    refine pw_aloadn (aX12_declared 44 rfl) rfl ?_
    refine pw_getr (v := .ref (base + 158)) (aX12_declared 45 rfl) uf_RX12_132 un_RX12_132 (congrArg (fun r => va_rf (h_rf base r)) (q121_79 (hok).2.1)) ?_
    refine pw_aloadn (aX12_declared 46 rfl) rfl ?_
    refine pw_getr (v := .int (FI 121 78)) (aX12_declared 47 rfl) uf_RX12_515 un_RX12_515 rfl ?_
    refine pw_aloadn (aX12_declared 48 rfl) rfl ?_
    refine pw_getr (v := .ref (base + 150)) (aX12_declared 49 rfl) uf_RX12_108 un_RX12_108 (congrArg (fun r => va_rf (h_rf base r)) (q121_63 (hok).2.1)) ?_
    refine pw_aloadn (aX12_declared 50 rfl) rfl ?_
    refine pw_getr (v := .int (FI 121 68)) (aX12_declared 51 rfl) uf_RX12_478 un_RX12_478 rfl ?_
    refine pw_laldr (c := 150) (ix := (FI 121 68).toInt.toNat) (aX12_declared 52 rfl) rfl (fun _ => ?_)
    refine pw_lastr (c := 158) (ix := (FI 121 78).toInt.toNat) (aX12_declared 53 rfl) rfl (fun _ => ?_)
    refine pw_aloadn (aX12_declared 54 rfl) rfl ?_
    refine pw_getr (v := .ref (base + 162)) (aX12_declared 55 rfl) uf_RX12_144 un_RX12_144 (congrArg (fun r => va_rf (h_rf base r)) (q121_83 (hok).2.1)) ?_
    refine pw_aloadn (aX12_declared 56 rfl) rfl ?_
    refine pw_getr (v := .int (FI 121 78)) (aX12_declared 57 rfl) uf_RX12_515 un_RX12_515 rfl ?_
    refine pw_aloadn (aX12_declared 58 rfl) rfl ?_
    refine pw_getr (v := .ref (base + 151)) (aX12_declared 59 rfl) uf_RX12_111 un_RX12_111 (congrArg (fun r => va_rf (h_rf base r)) (q121_64 (hok).2.1)) ?_
    refine pw_aloadn (aX12_declared 60 rfl) rfl ?_
    refine pw_getr (v := .int (FI 121 68)) (aX12_declared 61 rfl) uf_RX12_478 un_RX12_478 rfl ?_
    refine pw_ialdr (c := 151) (ix := (FI 121 68).toInt.toNat) (aX12_declared 62 rfl) rfl (fun _ => ?_)
    refine pw_iastr (c := 162) (ix := (FI 121 78).toInt.toNat) (aX12_declared 63 rfl) rfl (fun _ => ?_)
    refine pw_aloadn (aX12_declared 64 rfl) rfl ?_
    refine pw_getr (v := .ref (base + 161)) (aX12_declared 65 rfl) uf_RX12_141 un_RX12_141 (congrArg (fun r => va_rf (h_rf base r)) (q121_82 (hok).2.1)) ?_
    refine pw_aloadn (aX12_declared 66 rfl) rfl ?_
    refine pw_getr (v := .int (FI 121 78)) (aX12_declared 67 rfl) uf_RX12_515 un_RX12_515 rfl ?_
    refine pw_aloadn (aX12_declared 68 rfl) rfl ?_
    refine pw_getr (v := .int (FI 121 73)) (aX12_declared 69 rfl) uf_RX12_493 un_RX12_493 rfl ?_
    refine pw_iastr (c := 161) (ix := (FI 121 78).toInt.toNat) (aX12_declared 70 rfl) rfl (fun _ => ?_)
    refine pw_aloadn (aX12_declared 71 rfl) rfl ?_
    refine pw_getr (v := .ref (base + 159)) (aX12_declared 72 rfl) uf_RX12_135 un_RX12_135 (congrArg (fun r => va_rf (h_rf base r)) (q121_80 (hok).2.1)) ?_
    refine pw_aloadn (aX12_declared 73 rfl) rfl ?_
    refine pw_getr (v := .int (FI 121 78)) (aX12_declared 74 rfl) uf_RX12_515 un_RX12_515 rfl ?_
    refine pw_iconst (v := (0 : Int32)) (aX12_declared 75 rfl) rfl ?_
    refine pw_iastr (c := 159) (ix := (FI 121 78).toInt.toNat) (aX12_declared 76 rfl) rfl (fun _ => ?_)
    refine pw_aloadn (aX12_declared 77 rfl) rfl ?_
    refine pw_getr (v := .ref (base + 163)) (aX12_declared 78 rfl) uf_RX12_147 un_RX12_147 (congrArg (fun r => va_rf (h_rf base r)) (q121_84 (hok).2.1)) ?_
    refine pw_aloadn (aX12_declared 79 rfl) rfl ?_
    refine pw_getr (v := .int (FI 121 78)) (aX12_declared 80 rfl) uf_RX12_515 un_RX12_515 rfl ?_
    refine pw_iconst (v := (0 : Int32)) (aX12_declared 81 rfl) rfl ?_
    refine pw_zastr (c := 163) (ix := (FI 121 78).toInt.toNat) (aX12_declared 82 rfl) rfl (fun _ => ?_)
    refine pw_aloadn (aX12_declared 83 rfl) rfl ?_
    refine pw_aloadn (aX12_declared 84 rfl) rfl ?_
    refine pw_getr (v := .int (FI 121 68)) (aX12_declared 85 rfl) uf_RX12_478 un_RX12_478 rfl ?_
    refine pw_iconst (v := (1 : Int32)) (aX12_declared 86 rfl) rfl ?_
    refine pw_iadd (aX12_declared 87 rfl) ?_
    refine pw_putri (aX12_declared 88 rfl) uf_RX12_478 (fun _ _ _ => rfl) (fun t2 => ?_)
    refine pw_aloadn (aX12_declared 89 rfl) rfl ?_
    refine pw_bipush (v := (61 : Int32)) (aX12_declared 90 rfl) rfl ?_
    refine pw_callV (Bs := [.int ((61 : Int32))]) (rest := []) (aX12_declared 91 rfl) um_RX12_527 ujX12_need wc_RX12_527.2.2.2.2 (by decide) (by decide) rfl rfl (fun d => rX12_need hkb ((61 : Int32)) n sl SH (h_up (h_up (h_up (h_up (h_up FI 162 (FI 121 78).toInt.toNat (FI 151 (FI 121 68).toInt.toNat)) 161 (FI 121 78).toInt.toNat (FI 121 73)) 159 (FI 121 78).toInt.toNat ((0 : Int32))) 163 (FI 121 78).toInt.toNat (vp_nar .boolean ((0 : Int32)))) 121 68 ((FI 121 68) + ((1 : Int32)))) (h_up FL 158 (FI 121 78).toInt.toNat (FL 150 (FI 121 68).toInt.toNat)) FR hok) (fun v2 n2 sl2 SH2 FI2 FL2 FR2 hok2 _ => ?_)
    show pw _ _ _ _ _ _ _ 167 _ [] _ _
    refine pw_aloadn (aX12_declared 92 rfl) rfl ?_
    refine pw_getr (v := .ref (base + 160)) (aX12_declared 93 rfl) uf_RX12_138 un_RX12_138 (congrArg (fun r => va_rf (h_rf base r)) (q121_81 (hok2).2.1)) ?_
    refine pw_aloadn (aX12_declared 94 rfl) rfl ?_
    refine pw_getr (v := .int (FI2 121 78)) (aX12_declared 95 rfl) uf_RX12_515 un_RX12_515 rfl ?_
    refine pw_aloadn (aX12_declared 96 rfl) rfl ?_
    refine pw_getr (v := .int (FI2 121 68)) (aX12_declared 97 rfl) uf_RX12_478 un_RX12_478 rfl ?_
    refine pw_iastr (c := 160) (ix := (FI2 121 78).toInt.toNat) (aX12_declared 98 rfl) rfl (fun _ => ?_)
    refine pw_aloadn (aX12_declared 99 rfl) rfl ?_
    refine pw_iconst (v := (0 : Int32)) (aX12_declared 100 rfl) rfl ?_
    refine pw_putri (aX12_declared 101 rfl) uf_RX12_490 (fun _ _ _ => rfl) (fun t4 => ?_)
    refine pw_aloadn (aX12_declared 102 rfl) rfl ?_
    refine pw_getr (v := .int (FI2 121 69)) (aX12_declared 103 rfl) uf_RX12_475 un_RX12_475 rfl ?_
    refine pw_ifne (tgt := 212) (aX12_declared 104 rfl) (by decide) (fun b4 => ?_) (fun b4 => ?_)
    · skip
      refine pw_aloadn (aX12_declared 105 rfl) rfl ?_
      refine pw_getr (v := .ref (base + 149)) (aX12_declared 106 rfl) uf_RX12_105 un_RX12_105 (congrArg (fun r => va_rf (h_rf base r)) (q121_62 (hok2).2.1)) ?_
      refine pw_aloadn (aX12_declared 107 rfl) rfl ?_
      refine pw_getr (v := .int (FI2 121 68)) (aX12_declared 108 rfl) uf_RX12_478 un_RX12_478 rfl ?_
      refine pw_ialdr (c := 149) (ix := (FI2 121 68).toInt.toNat) (aX12_declared 109 rfl) rfl (fun _ => ?_)
      refine pw_iconst (v := (3 : Int32)) (aX12_declared 110 rfl) rfl ?_
      refine pw_icne (tgt := 212) (aX12_declared 111 rfl) (by decide) (fun b5 => ?_) (fun b5 => ?_)
      · skip
        refine pw_aloadn (aX12_declared 112 rfl) rfl ?_
        refine pw_callV (Bs := []) (rest := []) (aX12_declared 113 rfl) um_RX12_530 ujX12_rows wc_RX12_530.2.2.2.2 (by decide) (by decide) rfl rfl (fun d => rX12_rows hkb  n2 sl2 SH2 (h_up (h_up FI2 160 (FI2 121 78).toInt.toNat (FI2 121 68)) 121 71 ((0 : Int32))) FL2 FR2 hok2) (fun v6 n6 sl6 SH6 FI6 FL6 FR6 hok6 _ => ?_)
        show pw _ _ _ _ _ _ _ 209 _ [] _ _
        refine pw_goto (tgt := 223) (aX12_declared 114 rfl) (by decide) ?_
        exact pw_Li (L2 := [(0, .ref (base + 121)), (1, .int (l1i))]) [0, 1] (rX12_declared_223 hkb  (l1i) n6 sl6 SH6 FI6 FL6 FR6 hok6  ) ⟨rfl, rfl, trivial⟩
      · skip
        exact pw_Li (L2 := [(0, .ref (base + 121)), (1, .int (l1i))]) [0, 1] (rX12_declared_212 hkb  (l1i) n2 sl2 SH2 (h_up (h_up FI2 160 (FI2 121 78).toInt.toNat (FI2 121 68)) 121 71 ((0 : Int32))) FL2 FR2 hok2  ) ⟨rfl, rfl, trivial⟩
    · skip
      exact pw_Li (L2 := [(0, .ref (base + 121)), (1, .int (l1i))]) [0, 1] (rX12_declared_212 hkb  (l1i) n2 sl2 SH2 (h_up (h_up FI2 160 (FI2 121 78).toInt.toNat (FI2 121 68)) 121 71 ((0 : Int32))) FL2 FR2 hok2  ) ⟨rfl, rfl, trivial⟩
  · skip
    exact pw_vret (aX12_declared 43 rfl) hok
def BX12_declared_21 (K21 : Int32 → Nat → Nat → (Nat → Nat × Nat) → (Nat → Nat → Int32) → (Nat → Nat → Int64) → (Nat → Nat → Option Nat) → Unit → hS → Prop)  (l1i : Int32) (n sl : Nat) (SH : Nat → Nat × Nat) (FI : Nat → Nat → Int32) (FL : Nat → Nat → Int64) (FR : Nat → Nat → Option Nat) : Unit → hS → Prop := (P_if ((l1i).toInt < (FI 121 78).toInt) (P_and (p_in (l1i) (SH 158).2) (P_and (p_in (FI 121 68) (SH 150).2) (P_if ((FL 158 (l1i).toInt.toNat).toInt = (FL 150 (FI 121 68).toInt.toNat).toInt) (P_bi (RX12_fail ((4 : Int32)) n sl SH FI FL FR) (fun v2 n2 sl2 SH2 FI2 FL2 FR2 => (RX12_declared_53 K21  (l1i) n2 sl2 SH2 FI2 FL2 FR2))) (RX12_declared_53 K21  (l1i) n sl SH FI FL FR)))) (P_if ((FI 121 78).toInt = ((12 : Int32)).toInt) (P_bi (RX12_fail ((6 : Int32)) n sl SH FI FL FR) (fun v4 n4 sl4 SH4 FI4 FL4 FR4 => (RX12_declared_74    n4 sl4 SH4 FI4 FL4 FR4))) (RX12_declared_74    n sl SH FI FL FR)))
set_option maxHeartbeats 4000000 in
set_option maxRecDepth 100000 in
theorem bX12_declared_21 {sk : xK} {base N d : Nat} {K21 : Int32 → Nat → Nat → (Nat → Nat × Nat) → (Nat → Nat → Int32) → (Nat → Nat → Int64) → (Nat → Nat → Option Nat) → Unit → hS → Prop} (hkb : x_kb sk base)  (l1i : Int32)  (n sl : Nat) (SH : Nat → Nat × Nat) (FI : Nat → Nat → Int32) (FL : Nat → Nat → Int64) (FR : Nat → Nat → Option Nat) (hok : pk n SH FR)  (hK21 : ∀ (l1i : Int32) (n sl : Nat) (SH : Nat → Nat × Nat) (FI : Nat → Nat → Int32) (FL : Nat → Nat → Int64) (FR : Nat → Nat → Option Nat), pk n SH FR → pw pj_V sk base N d none 226 21 [(0, .ref (base + 121)), (1, .int (l1i))] [] (n, sl, SH, FI, FL, FR) (K21 l1i n sl SH FI FL FR)) : pw pj_V sk base (N + 1) d none 226 21 [(0, .ref (base + 121)), (1, .int (l1i))] [] (n, sl, SH, FI, FL, FR) (BX12_declared_21 K21  l1i n sl SH FI FL FR) := by
  unfold BX12_declared_21
  refine pd_iloadn (aX12_declared 13 rfl) rfl ?_
  refine pw_aloadn (aX12_declared 14 rfl) rfl ?_
  refine pw_getr (v := .int (FI 121 78)) (aX12_declared 15 rfl) uf_RX12_515 un_RX12_515 rfl ?_
  refine pw_icge (tgt := 59) (aX12_declared 16 rfl) (by decide) (fun b0 => ?_) (fun b0 => ?_)
  · skip
    refine pw_aloadn (aX12_declared 17 rfl) rfl ?_
    refine pw_getr (v := .ref (base + 158)) (aX12_declared 18 rfl) uf_RX12_132 un_RX12_132 (congrArg (fun r => va_rf (h_rf base r)) (q121_79 (hok).2.1)) ?_
    refine pw_iloadn (aX12_declared 19 rfl) rfl ?_
    refine pw_laldr (c := 158) (ix := (l1i).toInt.toNat) (aX12_declared 20 rfl) rfl (fun _ => ?_)
    refine pw_aloadn (aX12_declared 21 rfl) rfl ?_
    refine pw_getr (v := .ref (base + 150)) (aX12_declared 22 rfl) uf_RX12_108 un_RX12_108 (congrArg (fun r => va_rf (h_rf base r)) (q121_63 (hok).2.1)) ?_
    refine pw_aloadn (aX12_declared 23 rfl) rfl ?_
    refine pw_getr (v := .int (FI 121 68)) (aX12_declared 24 rfl) uf_RX12_478 un_RX12_478 rfl ?_
    refine pw_laldr (c := 150) (ix := (FI 121 68).toInt.toNat) (aX12_declared 25 rfl) rfl (fun _ => ?_)
    refine pw_lcne (tgt := 53) (aX12_declared 26 rfl) (aX12_declared 27 rfl) (by decide) (fun b1 => ?_) (fun b1 => ?_)
    · skip
      refine pw_aloadn (aX12_declared 28 rfl) rfl ?_
      refine pw_iconst (v := (4 : Int32)) (aX12_declared 29 rfl) rfl ?_
      refine pw_callV (Bs := [.int ((4 : Int32))]) (rest := []) (aX12_declared 30 rfl) um_RX12_487 ujX12_fail wc_RX12_487.2.2.2.2 (by decide) (by decide) rfl rfl (fun d => rX12_fail hkb ((4 : Int32)) n sl SH FI FL FR hok) (fun v2 n2 sl2 SH2 FI2 FL2 FR2 hok2 _ => ?_)
      show pw _ _ _ _ _ _ _ 53 _ [] _ _
      exact pw_Li (L2 := [(0, .ref (base + 121)), (1, .int (l1i))]) [0, 1] (rX12_declared_53 hkb  (l1i) n2 sl2 SH2 FI2 FL2 FR2 hok2  hK21) ⟨rfl, rfl, trivial⟩
    · skip
      exact pw_Li (L2 := [(0, .ref (base + 121)), (1, .int (l1i))]) [0, 1] (rX12_declared_53 hkb  (l1i) n sl SH FI FL FR hok  hK21) ⟨rfl, rfl, trivial⟩
  · skip
    refine pw_aloadn (aX12_declared 33 rfl) rfl ?_
    refine pw_getr (v := .int (FI 121 78)) (aX12_declared 34 rfl) uf_RX12_515 un_RX12_515 rfl ?_
    refine pw_bipush (v := (12 : Int32)) (aX12_declared 35 rfl) rfl ?_
    refine pw_icne (tgt := 74) (aX12_declared 36 rfl) (by decide) (fun b3 => ?_) (fun b3 => ?_)
    · skip
      refine pw_aloadn (aX12_declared 37 rfl) rfl ?_
      refine pw_bipush (v := (6 : Int32)) (aX12_declared 38 rfl) rfl ?_
      refine pw_callV (Bs := [.int ((6 : Int32))]) (rest := []) (aX12_declared 39 rfl) um_RX12_487 ujX12_fail wc_RX12_487.2.2.2.2 (by decide) (by decide) rfl rfl (fun d => rX12_fail hkb ((6 : Int32)) n sl SH FI FL FR hok) (fun v4 n4 sl4 SH4 FI4 FL4 FR4 hok4 _ => ?_)
      show pw _ _ _ _ _ _ _ 74 _ [] _ _
      exact pw_Li (L2 := [(0, .ref (base + 121)), (1, .int (l1i))]) [0, 1] (rX12_declared_74 hkb  (l1i) n4 sl4 SH4 FI4 FL4 FR4 hok4  ) ⟨rfl, rfl, trivial⟩
    · skip
      exact pw_Li (L2 := [(0, .ref (base + 121)), (1, .int (l1i))]) [0, 1] (rX12_declared_74 hkb  (l1i) n sl SH FI FL FR hok  ) ⟨rfl, rfl, trivial⟩
def GX12_declared_21   : Nat → Int32 → Nat → Nat → (Nat → Nat × Nat) → (Nat → Nat → Int32) → (Nat → Nat → Int64) → (Nat → Nat → Option Nat) → Unit → hS → Prop
  | 0, _, _, _, _, _, _, _ => fun _ _ => False
  | g + 1, l1i, n, sl, SH, FI, FL, FR => BX12_declared_21  (GX12_declared_21   g)  l1i n sl SH FI FL FR
def RX12_declared_21   (l1i : Int32) (n sl : Nat) (SH : Nat → Nat × Nat) (FI : Nat → Nat → Int32) (FL : Nat → Nat → Int64) (FR : Nat → Nat → Option Nat) : Unit → hS → Prop := fun v s => ∃ g, GX12_declared_21   g l1i n sl SH FI FL FR v s
theorem gX12_declared_21 {sk : xK} {base d : Nat}  (hkb : x_kb sk base)  (N : Nat) :  ∀ (l1i : Int32)  (n sl : Nat) (SH : Nat → Nat × Nat) (FI : Nat → Nat → Int32) (FL : Nat → Nat → Int64) (FR : Nat → Nat → Option Nat), pk n SH FR → pw pj_V sk base N d none 226 21 [(0, .ref (base + 121)), (1, .int (l1i))] [] (n, sl, SH, FI, FL, FR) (GX12_declared_21   (N + 1) l1i n sl SH FI FL FR) := by
  induction N with
  | zero => intros; exact pw_0
  | succ N ih => intro   l1i  n sl SH FI FL FR hok; exact bX12_declared_21 hkb  l1i  n sl SH FI FL FR hok  (ih  )
theorem rX12_declared_21 {sk : xK} {base N d : Nat}  (hkb : x_kb sk base)  (l1i : Int32)  (n sl : Nat) (SH : Nat → Nat × Nat) (FI : Nat → Nat → Int32) (FL : Nat → Nat → Int64) (FR : Nat → Nat → Option Nat) (hok : pk n SH FR)   : pw pj_V sk base N d none 226 21 [(0, .ref (base + 121)), (1, .int (l1i))] [] (n, sl, SH, FI, FL, FR) (RX12_declared_21   l1i n sl SH FI FL FR) := pw_cons (gX12_declared_21 hkb  N   l1i  n sl SH FI FL FR hok) (fun _ _ h => ⟨_, h⟩)
def RX12_declared  (n sl : Nat) (SH : Nat → Nat × Nat) (FI : Nat → Nat → Int32) (FL : Nat → Nat → Int64) (FR : Nat → Nat → Option Nat) : Unit → hS → Prop := (P_and (p_in (FI 121 68) (SH 149).2) (P_if ((FI 149 (FI 121 68).toInt.toNat).toInt = ((1 : Int32)).toInt) (RX12_declared_21   ((0 : Int32)) n sl SH FI FL FR) (P_bi (RX12_fail ((1 : Int32)) n sl SH FI FL FR) (fun v1 n1 sl1 SH1 FI1 FL1 FR1 => (P_ret () (n1, sl1, SH1, FI1, FL1, FR1))))))
set_option maxHeartbeats 4000000 in
set_option maxRecDepth 100000 in
theorem rX12_declared {sk : xK} {base N d : Nat} (hkb : x_kb sk base)  (n sl : Nat) (SH : Nat → Nat × Nat) (FI : Nat → Nat → Int32) (FL : Nat → Nat → Int64) (FR : Nat → Nat → Option Nat) (hok : pk n SH FR)  : pw pj_V sk base N d none 226 0 [(0, .ref (base + 121))] [] (n, sl, SH, FI, FL, FR) (RX12_declared  n sl SH FI FL FR) := by
  unfold RX12_declared
  refine pw_aloadn (aX12_declared 0 rfl) rfl ?_
  refine pw_getr (v := .ref (base + 149)) (aX12_declared 1 rfl) uf_RX12_105 un_RX12_105 (congrArg (fun r => va_rf (h_rf base r)) (q121_62 (hok).2.1)) ?_
  refine pw_aloadn (aX12_declared 2 rfl) rfl ?_
  refine pw_getr (v := .int (FI 121 68)) (aX12_declared 3 rfl) uf_RX12_478 un_RX12_478 rfl ?_
  refine pw_ialdr (c := 149) (ix := (FI 121 68).toInt.toNat) (aX12_declared 4 rfl) rfl (fun _ => ?_)
  refine pw_iconst (v := (1 : Int32)) (aX12_declared 5 rfl) rfl ?_
  refine pw_iceq (tgt := 19) (aX12_declared 6 rfl) (by decide) (fun b0 => ?_) (fun b0 => ?_)
  · skip
    refine pw_iconst (v := (0 : Int32)) (aX12_declared 11 rfl) rfl ?_
    refine pw_istoren (L2 := [(1, .int ((0 : Int32))), (0, .ref (base + 121))]) (aX12_declared 12 rfl) rfl ?_
    exact pw_Li (L2 := [(0, .ref (base + 121)), (1, .int ((0 : Int32)))]) [1, 0] (rX12_declared_21 hkb  ((0 : Int32)) n sl SH FI FL FR hok  ) ⟨rfl, rfl, trivial⟩
  · skip
    refine pw_aloadn (aX12_declared 7 rfl) rfl ?_
    refine pw_iconst (v := (1 : Int32)) (aX12_declared 8 rfl) rfl ?_
    refine pw_callV (Bs := [.int ((1 : Int32))]) (rest := []) (aX12_declared 9 rfl) um_RX12_487 ujX12_fail wc_RX12_487.2.2.2.2 (by decide) (by decide) rfl rfl (fun d => rX12_fail hkb ((1 : Int32)) n sl SH FI FL FR hok) (fun v1 n1 sl1 SH1 FI1 FL1 FR1 hok1 _ => ?_)
    show pw _ _ _ _ _ _ _ 18 _ [] _ _
    exact pw_vret (aX12_declared 10 rfl) hok1
def RX12_tells (a1 : Int32) (a2 : Int32) (n sl : Nat) (SH : Nat → Nat × Nat) (FI : Nat → Nat → Int32) (FL : Nat → Nat → Int64) (FR : Nat → Nat → Option Nat) : Int32 → hS → Prop := (P_if ((a1).toInt = 0) (P_ret (a1) (n, sl, SH, (h_up (h_up (h_up (h_up (h_up FI 121 53 ((1 : Int32))) 121 54 (a1)) 121 55 ((-1 : Int32))) 121 56 (FI 121 31)) 121 57 (FI 121 32)), FL, FR)) (P_ret (a1) (n, sl, SH, (h_up (h_up (h_up (h_up (h_up FI 121 53 ((1 : Int32))) 121 54 (a1)) 121 55 (a2)) 121 56 (FI 121 31)) 121 57 (FI 121 32)), FL, FR)))
set_option maxHeartbeats 4000000 in
set_option maxRecDepth 100000 in
theorem rX12_tells {sk : xK} {base N d : Nat} (hkb : x_kb sk base) (a1 : Int32) (a2 : Int32) (n sl : Nat) (SH : Nat → Nat × Nat) (FI : Nat → Nat → Int32) (FL : Nat → Nat → Int64) (FR : Nat → Nat → Option Nat) (hok : pk n SH FR)  : pw pj_I sk base N d none 188 0 [(0, .ref (base + 121)), (1, .int (a1)), (2, .int (a2))] [] (n, sl, SH, FI, FL, FR) (RX12_tells a1 a2 n sl SH FI FL FR) := by
  unfold RX12_tells
  refine pw_aloadn (aX12_tells 0 rfl) rfl ?_
  refine pw_iconst (v := (1 : Int32)) (aX12_tells 1 rfl) rfl ?_
  refine pw_putri (aX12_tells 2 rfl) uf_RX12_361 (fun _ _ _ => rfl) (fun t1 => ?_)
  refine pw_aloadn (aX12_tells 3 rfl) rfl ?_
  refine pw_iloadn (aX12_tells 4 rfl) rfl ?_
  refine pw_putri (aX12_tells 5 rfl) uf_RX12_364 (fun _ _ _ => rfl) (fun t2 => ?_)
  refine pw_aloadn (aX12_tells 6 rfl) rfl ?_
  refine pw_iloadn (aX12_tells 7 rfl) rfl ?_
  refine pw_ifne (tgt := 19) (aX12_tells 8 rfl) (by decide) (fun b2 => ?_) (fun b2 => ?_)
  · skip
    refine pw_iconst (v := (-1 : Int32)) (aX12_tells 9 rfl) rfl ?_
    refine pw_goto (tgt := 20) (aX12_tells 10 rfl) (by decide) ?_
    refine pw_putri (aX12_tells 12 rfl) uf_RX12_99 (fun _ _ _ => rfl) (fun t4 => ?_)
    refine pw_aloadn (aX12_tells 13 rfl) rfl ?_
    refine pw_aloadn (aX12_tells 14 rfl) rfl ?_
    refine pw_getr (v := .int (FI 121 31)) (aX12_tells 15 rfl) uf_RX12_299 un_RX12_299 rfl ?_
    refine pw_putri (aX12_tells 16 rfl) uf_RX12_367 (fun _ _ _ => rfl) (fun t5 => ?_)
    refine pw_aloadn (aX12_tells 17 rfl) rfl ?_
    refine pw_aloadn (aX12_tells 18 rfl) rfl ?_
    refine pw_getr (v := .int (FI 121 32)) (aX12_tells 19 rfl) uf_RX12_258 un_RX12_258 rfl ?_
    refine pw_putri (aX12_tells 20 rfl) uf_RX12_370 (fun _ _ _ => rfl) (fun t6 => ?_)
    refine pw_iloadn (aX12_tells 21 rfl) rfl ?_
    exact pw_iret (aX12_tells 22 rfl) hok
  · skip
    refine pw_iloadn (aX12_tells 11 rfl) rfl ?_
    refine pw_putri (aX12_tells 12 rfl) uf_RX12_99 (fun _ _ _ => rfl) (fun t7 => ?_)
    refine pw_aloadn (aX12_tells 13 rfl) rfl ?_
    refine pw_aloadn (aX12_tells 14 rfl) rfl ?_
    refine pw_getr (v := .int (FI 121 31)) (aX12_tells 15 rfl) uf_RX12_299 un_RX12_299 rfl ?_
    refine pw_putri (aX12_tells 16 rfl) uf_RX12_367 (fun _ _ _ => rfl) (fun t8 => ?_)
    refine pw_aloadn (aX12_tells 17 rfl) rfl ?_
    refine pw_aloadn (aX12_tells 18 rfl) rfl ?_
    refine pw_getr (v := .int (FI 121 32)) (aX12_tells 19 rfl) uf_RX12_258 un_RX12_258 rfl ?_
    refine pw_putri (aX12_tells 20 rfl) uf_RX12_370 (fun _ _ _ => rfl) (fun t9 => ?_)
    refine pw_iloadn (aX12_tells 21 rfl) rfl ?_
    exact pw_iret (aX12_tells 22 rfl) hok
def RX12_faulty (a1 : Int32) (a2 : Int32) (n sl : Nat) (SH : Nat → Nat × Nat) (FI : Nat → Nat → Int32) (FL : Nat → Nat → Int64) (FR : Nat → Nat → Option Nat) : Int32 → hS → Prop := (P_bi (RX12_tells (a1) (a2) n sl SH (h_up (h_up FI 121 31 ((0 : Int32))) 121 32 ((0 : Int32))) FL FR) (fun v2 n2 sl2 SH2 FI2 FL2 FR2 => (P_ret ((-1 : Int32)) (n2, sl2, SH2, FI2, FL2, FR2))))
set_option maxHeartbeats 4000000 in
set_option maxRecDepth 100000 in
theorem rX12_faulty {sk : xK} {base N d : Nat} (hkb : x_kb sk base) (a1 : Int32) (a2 : Int32) (n sl : Nat) (SH : Nat → Nat × Nat) (FI : Nat → Nat → Int32) (FL : Nat → Nat → Int64) (FR : Nat → Nat → Option Nat) (hok : pk n SH FR)  : pw pj_I sk base N d none 224 0 [(0, .ref (base + 121)), (1, .int (a1)), (2, .int (a2))] [] (n, sl, SH, FI, FL, FR) (RX12_faulty a1 a2 n sl SH FI FL FR) := by
  unfold RX12_faulty
  refine pw_aloadn (aX12_faulty 0 rfl) rfl ?_
  refine pw_iconst (v := (0 : Int32)) (aX12_faulty 1 rfl) rfl ?_
  refine pw_putri (aX12_faulty 2 rfl) uf_RX12_299 (fun _ _ _ => rfl) (fun t1 => ?_)
  refine pw_aloadn (aX12_faulty 3 rfl) rfl ?_
  refine pw_iconst (v := (0 : Int32)) (aX12_faulty 4 rfl) rfl ?_
  refine pw_putri (aX12_faulty 5 rfl) uf_RX12_258 (fun _ _ _ => rfl) (fun t2 => ?_)
  refine pw_aloadn (aX12_faulty 6 rfl) rfl ?_
  refine pw_iloadn (aX12_faulty 7 rfl) rfl ?_
  refine pw_iloadn (aX12_faulty 8 rfl) rfl ?_
  refine pw_callV (Bs := [.int (a1), .int (a2)]) (rest := []) (aX12_faulty 9 rfl) um_RX12_380 ujX12_tells wc_RX12_380.2.2.2.2 (by decide) (by decide) rfl rfl (fun d => rX12_tells hkb (a1) (a2) n sl SH (h_up (h_up FI 121 31 ((0 : Int32))) 121 32 ((0 : Int32))) FL FR hok) (fun v2 n2 sl2 SH2 FI2 FL2 FR2 hok2 _ => ?_)
  show pw _ _ _ _ _ _ _ 16 _ [.int (v2)] _ _
  refine pw_pop (aX12_faulty 10 rfl) ?_
  refine pw_iconst (v := (-1 : Int32)) (aX12_faulty 11 rfl) rfl ?_
  exact pw_iret (aX12_faulty 12 rfl) hok2
def BX12_compile_221 (K151 : Int32 → Nat → Nat → (Nat → Nat × Nat) → (Nat → Nat → Int32) → (Nat → Nat → Int64) → (Nat → Nat → Option Nat) → Int32 → hS → Prop) (K221 : Int32 → Int32 → Nat → Nat → (Nat → Nat × Nat) → (Nat → Nat → Int32) → (Nat → Nat → Int64) → (Nat → Nat → Option Nat) → Int32 → hS → Prop)  (l1i : Int32) (l2i : Int32) (n sl : Nat) (SH : Nat → Nat × Nat) (FI : Nat → Nat → Int32) (FL : Nat → Nat → Int64) (FR : Nat → Nat → Option Nat) : Int32 → hS → Prop := (P_and (p_in (((20 : Int32)) + (l1i)) (SH 125).2) (P_if ((l2i).toInt < (FI 125 (((20 : Int32)) + (l1i)).toInt.toNat).toInt) (P_and (p_in (l1i) (SH 161).2) (P_and (p_in ((FI 161 (l1i).toInt.toNat) + (l2i)) (SH 154).2) (P_and (p_in ((((12000 : Int32)) + (((600 : Int32)) * (l1i))) + (l2i)) (SH 124).2) (K221 (l1i) ((l2i) + (1 : Int32)) n sl SH (h_up FI 124 ((((12000 : Int32)) + (((600 : Int32)) * (l1i))) + (l2i)).toInt.toNat (FI 154 ((FI 161 (l1i).toInt.toNat) + (l2i)).toInt.toNat)) FL FR)))) (K151 ((l1i) + (1 : Int32)) n sl SH FI FL FR)))
set_option maxHeartbeats 4000000 in
set_option maxRecDepth 100000 in
theorem bX12_compile_221 {sk : xK} {base N d : Nat} {K151 : Int32 → Nat → Nat → (Nat → Nat × Nat) → (Nat → Nat → Int32) → (Nat → Nat → Int64) → (Nat → Nat → Option Nat) → Int32 → hS → Prop} {K221 : Int32 → Int32 → Nat → Nat → (Nat → Nat × Nat) → (Nat → Nat → Int32) → (Nat → Nat → Int64) → (Nat → Nat → Option Nat) → Int32 → hS → Prop} (hkb : x_kb sk base)  (l1i : Int32) (l2i : Int32)  (n sl : Nat) (SH : Nat → Nat × Nat) (FI : Nat → Nat → Int32) (FL : Nat → Nat → Int64) (FR : Nat → Nat → Option Nat) (hok : pk n SH FR)  (hK151 : ∀ (l1i : Int32) (l2i : Int32) (n sl : Nat) (SH : Nat → Nat × Nat) (FI : Nat → Nat → Int32) (FL : Nat → Nat → Int64) (FR : Nat → Nat → Option Nat), pk n SH FR → pw pj_I sk base N d none 225 151 [(0, .ref (base + 121)), (1, .int (l1i)), (2, .int (l2i))] [] (n, sl, SH, FI, FL, FR) (K151 l1i n sl SH FI FL FR)) (hK221 : ∀ (l1i : Int32) (l2i : Int32) (n sl : Nat) (SH : Nat → Nat × Nat) (FI : Nat → Nat → Int32) (FL : Nat → Nat → Int64) (FR : Nat → Nat → Option Nat), pk n SH FR → pw pj_I sk base N d none 225 221 [(0, .ref (base + 121)), (1, .int (l1i)), (2, .int (l2i))] [] (n, sl, SH, FI, FL, FR) (K221 l1i l2i n sl SH FI FL FR)) : pw pj_I sk base (N + 1) d none 225 221 [(0, .ref (base + 121)), (1, .int (l1i)), (2, .int (l2i))] [] (n, sl, SH, FI, FL, FR) (BX12_compile_221 K151 K221  l1i l2i n sl SH FI FL FR) := by
  unfold BX12_compile_221
  refine pd_iloadn (aX12_compile 131 rfl) rfl ?_
  refine pw_aloadn (aX12_compile 132 rfl) rfl ?_
  refine pw_getr (v := .ref (base + 125)) (aX12_compile 133 rfl) uf_RX12_20 un_RX12_20 (congrArg (fun r => va_rf (h_rf base r)) (q121_4 (hok).2.1)) ?_
  refine pw_bipush (v := (20 : Int32)) (aX12_compile 134 rfl) rfl ?_
  refine pw_iloadn (aX12_compile 135 rfl) rfl ?_
  refine pw_iadd (aX12_compile 136 rfl) ?_
  refine pw_ialdr (c := 125) (ix := (((20 : Int32)) + (l1i)).toInt.toNat) (aX12_compile 137 rfl) rfl (fun _ => ?_)
  refine pw_icge (tgt := 269) (aX12_compile 138 rfl) (by decide) (fun b0 => ?_) (fun b0 => ?_)
  · skip
    refine pw_aloadn (aX12_compile 139 rfl) rfl ?_
    refine pw_getr (v := .ref (base + 124)) (aX12_compile 140 rfl) uf_RX12_17 un_RX12_17 (congrArg (fun r => va_rf (h_rf base r)) (q121_3 (hok).2.1)) ?_
    refine pw_sipush (v := (12000 : Int32)) (aX12_compile 141 rfl) rfl ?_
    refine pw_sipush (v := (600 : Int32)) (aX12_compile 142 rfl) rfl ?_
    refine pw_iloadn (aX12_compile 143 rfl) rfl ?_
    refine pw_imul (aX12_compile 144 rfl) ?_
    refine pw_iadd (aX12_compile 145 rfl) ?_
    refine pw_iloadn (aX12_compile 146 rfl) rfl ?_
    refine pw_iadd (aX12_compile 147 rfl) ?_
    refine pw_aloadn (aX12_compile 148 rfl) rfl ?_
    refine pw_getr (v := .ref (base + 154)) (aX12_compile 149 rfl) uf_RX12_120 un_RX12_120 (congrArg (fun r => va_rf (h_rf base r)) (q121_72 (hok).2.1)) ?_
    refine pw_aloadn (aX12_compile 150 rfl) rfl ?_
    refine pw_getr (v := .ref (base + 161)) (aX12_compile 151 rfl) uf_RX12_141 un_RX12_141 (congrArg (fun r => va_rf (h_rf base r)) (q121_82 (hok).2.1)) ?_
    refine pw_iloadn (aX12_compile 152 rfl) rfl ?_
    refine pw_ialdr (c := 161) (ix := (l1i).toInt.toNat) (aX12_compile 153 rfl) rfl (fun _ => ?_)
    refine pw_iloadn (aX12_compile 154 rfl) rfl ?_
    refine pw_iadd (aX12_compile 155 rfl) ?_
    refine pw_ialdr (c := 154) (ix := ((FI 161 (l1i).toInt.toNat) + (l2i)).toInt.toNat) (aX12_compile 156 rfl) rfl (fun _ => ?_)
    refine pw_iastr (c := 124) (ix := ((((12000 : Int32)) + (((600 : Int32)) * (l1i))) + (l2i)).toInt.toNat) (aX12_compile 157 rfl) rfl (fun _ => ?_)
    refine pw_iinc (v := (l2i) + (1 : Int32)) (L2 := [(2, .int ((l2i) + (1 : Int32))), (0, .ref (base + 121)), (1, .int (l1i))]) (aX12_compile 158 rfl) rfl rfl rfl ?_
    refine pw_goto (tgt := 221) (aX12_compile 159 rfl) (by decide) ?_
    exact pw_Li (L2 := [(0, .ref (base + 121)), (1, .int (l1i)), (2, .int ((l2i) + (1 : Int32)))]) [2, 0, 1] (hK221 (l1i) ((l2i) + (1 : Int32)) n sl SH (h_up FI 124 ((((12000 : Int32)) + (((600 : Int32)) * (l1i))) + (l2i)).toInt.toNat (FI 154 ((FI 161 (l1i).toInt.toNat) + (l2i)).toInt.toNat)) FL FR hok) ⟨rfl, rfl, rfl, trivial⟩
  · skip
    refine pw_iinc (v := (l1i) + (1 : Int32)) (L2 := [(1, .int ((l1i) + (1 : Int32))), (0, .ref (base + 121)), (2, .int (l2i))]) (aX12_compile 160 rfl) rfl rfl rfl ?_
    refine pw_goto (tgt := 151) (aX12_compile 161 rfl) (by decide) ?_
    exact pw_Li (L2 := [(0, .ref (base + 121)), (1, .int ((l1i) + (1 : Int32))), (2, .int (l2i))]) [1, 0, 2] (hK151 ((l1i) + (1 : Int32)) (l2i) n sl SH FI FL FR hok) ⟨rfl, rfl, rfl, trivial⟩
def GX12_compile_221 (K151 : Int32 → Nat → Nat → (Nat → Nat × Nat) → (Nat → Nat → Int32) → (Nat → Nat → Int64) → (Nat → Nat → Option Nat) → Int32 → hS → Prop)  : Nat → Int32 → Int32 → Nat → Nat → (Nat → Nat × Nat) → (Nat → Nat → Int32) → (Nat → Nat → Int64) → (Nat → Nat → Option Nat) → Int32 → hS → Prop
  | 0, _, _, _, _, _, _, _, _ => fun _ _ => False
  | g + 1, l1i, l2i, n, sl, SH, FI, FL, FR => BX12_compile_221 K151 (GX12_compile_221 K151  g)  l1i l2i n sl SH FI FL FR
def RX12_compile_221 (K151 : Int32 → Nat → Nat → (Nat → Nat × Nat) → (Nat → Nat → Int32) → (Nat → Nat → Int64) → (Nat → Nat → Option Nat) → Int32 → hS → Prop)  (l1i : Int32) (l2i : Int32) (n sl : Nat) (SH : Nat → Nat × Nat) (FI : Nat → Nat → Int32) (FL : Nat → Nat → Int64) (FR : Nat → Nat → Option Nat) : Int32 → hS → Prop := fun v s => ∃ g, GX12_compile_221 K151  g l1i l2i n sl SH FI FL FR v s
theorem gX12_compile_221 {sk : xK} {base d : Nat} {K151 : Int32 → Nat → Nat → (Nat → Nat × Nat) → (Nat → Nat → Int32) → (Nat → Nat → Int64) → (Nat → Nat → Option Nat) → Int32 → hS → Prop} (hkb : x_kb sk base)  (N : Nat) : (∀ (l1i : Int32) (l2i : Int32) (n sl : Nat) (SH : Nat → Nat × Nat) (FI : Nat → Nat → Int32) (FL : Nat → Nat → Int64) (FR : Nat → Nat → Option Nat), pk n SH FR → pw pj_I sk base N d none 225 151 [(0, .ref (base + 121)), (1, .int (l1i)), (2, .int (l2i))] [] (n, sl, SH, FI, FL, FR) (K151 l1i n sl SH FI FL FR)) →  ∀ (l1i : Int32) (l2i : Int32)  (n sl : Nat) (SH : Nat → Nat × Nat) (FI : Nat → Nat → Int32) (FL : Nat → Nat → Int64) (FR : Nat → Nat → Option Nat), pk n SH FR → pw pj_I sk base N d none 225 221 [(0, .ref (base + 121)), (1, .int (l1i)), (2, .int (l2i))] [] (n, sl, SH, FI, FL, FR) (GX12_compile_221 K151  (N + 1) l1i l2i n sl SH FI FL FR) := by
  induction N with
  | zero => intros; exact pw_0
  | succ N ih => intro  hK151 l1i l2i  n sl SH FI FL FR hok; exact bX12_compile_221 hkb  l1i l2i  n sl SH FI FL FR hok  (fun l1i l2i n sl SH FI FL FR ok => pw_mono (hK151 l1i l2i n sl SH FI FL FR ok) (Nat.le_succ _)) (ih  (fun l1i l2i n sl SH FI FL FR ok => pw_mono (hK151 l1i l2i n sl SH FI FL FR ok) (Nat.le_succ _)))
theorem rX12_compile_221 {sk : xK} {base N d : Nat} {K151 : Int32 → Nat → Nat → (Nat → Nat × Nat) → (Nat → Nat → Int32) → (Nat → Nat → Int64) → (Nat → Nat → Option Nat) → Int32 → hS → Prop} (hkb : x_kb sk base)  (l1i : Int32) (l2i : Int32)  (n sl : Nat) (SH : Nat → Nat × Nat) (FI : Nat → Nat → Int32) (FL : Nat → Nat → Int64) (FR : Nat → Nat → Option Nat) (hok : pk n SH FR)  (hK151 : ∀ (l1i : Int32) (l2i : Int32) (n sl : Nat) (SH : Nat → Nat × Nat) (FI : Nat → Nat → Int32) (FL : Nat → Nat → Int64) (FR : Nat → Nat → Option Nat), pk n SH FR → pw pj_I sk base N d none 225 151 [(0, .ref (base + 121)), (1, .int (l1i)), (2, .int (l2i))] [] (n, sl, SH, FI, FL, FR) (K151 l1i n sl SH FI FL FR)) : pw pj_I sk base N d none 225 221 [(0, .ref (base + 121)), (1, .int (l1i)), (2, .int (l2i))] [] (n, sl, SH, FI, FL, FR) (RX12_compile_221 K151  l1i l2i n sl SH FI FL FR) := pw_cons (gX12_compile_221 hkb  N  hK151 l1i l2i  n sl SH FI FL FR hok) (fun _ _ h => ⟨_, h⟩)
def BX12_compile_277 (K277 : Int32 → Nat → Nat → (Nat → Nat × Nat) → (Nat → Nat → Int32) → (Nat → Nat → Int64) → (Nat → Nat → Option Nat) → Int32 → hS → Prop)  (l1i : Int32) (n sl : Nat) (SH : Nat → Nat × Nat) (FI : Nat → Nat → Int32) (FL : Nat → Nat → Int64) (FR : Nat → Nat → Option Nat) : Int32 → hS → Prop := (P_if ((l1i).toInt < (FI 121 67).toInt) (P_and (p_in (l1i) (SH 149).2) (P_and (p_in (l1i) (SH 152).2) (P_and (p_in (l1i) (SH 150).2) (P_and (p_in (l1i) (SH 153).2) (K277 ((l1i) + (1 : Int32)) n sl SH (h_up FI 152 (l1i).toInt.toNat (FI 149 (l1i).toInt.toNat)) (h_up FL 153 (l1i).toInt.toNat (FL 150 (l1i).toInt.toNat)) FR))))) (P_bi (RX12_tells ((0 : Int32)) ((-1 : Int32)) n sl SH (h_up (h_up FI 121 31 ((0 : Int32))) 121 32 ((0 : Int32))) FL FR) (fun v3 n3 sl3 SH3 FI3 FL3 FR3 => (P_ret (FI3 121 74) (n3, sl3, SH3, FI3, FL3, FR3)))))
set_option maxHeartbeats 4000000 in
set_option maxRecDepth 100000 in
theorem bX12_compile_277 {sk : xK} {base N d : Nat} {K277 : Int32 → Nat → Nat → (Nat → Nat × Nat) → (Nat → Nat → Int32) → (Nat → Nat → Int64) → (Nat → Nat → Option Nat) → Int32 → hS → Prop} (hkb : x_kb sk base)  (l1i : Int32) (l2i : Int32) (n sl : Nat) (SH : Nat → Nat × Nat) (FI : Nat → Nat → Int32) (FL : Nat → Nat → Int64) (FR : Nat → Nat → Option Nat) (hok : pk n SH FR)  (hK277 : ∀ (l1i : Int32) (l2i : Int32) (n sl : Nat) (SH : Nat → Nat × Nat) (FI : Nat → Nat → Int32) (FL : Nat → Nat → Int64) (FR : Nat → Nat → Option Nat), pk n SH FR → pw pj_I sk base N d none 225 277 [(0, .ref (base + 121)), (1, .int (l1i)), (2, .int (l2i))] [] (n, sl, SH, FI, FL, FR) (K277 l1i n sl SH FI FL FR)) : pw pj_I sk base (N + 1) d none 225 277 [(0, .ref (base + 121)), (1, .int (l1i)), (2, .int (l2i))] [] (n, sl, SH, FI, FL, FR) (BX12_compile_277 K277  l1i n sl SH FI FL FR) := by
  unfold BX12_compile_277
  refine pd_iloadn (aX12_compile 164 rfl) rfl ?_
  refine pw_aloadn (aX12_compile 165 rfl) rfl ?_
  refine pw_getr (v := .int (FI 121 67)) (aX12_compile 166 rfl) uf_RX12_446 un_RX12_446 rfl ?_
  refine pw_icge (tgt := 315) (aX12_compile 167 rfl) (by decide) (fun b0 => ?_) (fun b0 => ?_)
  · skip
    refine pw_aloadn (aX12_compile 168 rfl) rfl ?_
    refine pw_getr (v := .ref (base + 152)) (aX12_compile 169 rfl) uf_RX12_114 un_RX12_114 (congrArg (fun r => va_rf (h_rf base r)) (q121_65 (hok).2.1)) ?_
    refine pw_iloadn (aX12_compile 170 rfl) rfl ?_
    refine pw_aloadn (aX12_compile 171 rfl) rfl ?_
    refine pw_getr (v := .ref (base + 149)) (aX12_compile 172 rfl) uf_RX12_105 un_RX12_105 (congrArg (fun r => va_rf (h_rf base r)) (q121_62 (hok).2.1)) ?_
    refine pw_iloadn (aX12_compile 173 rfl) rfl ?_
    refine pw_ialdr (c := 149) (ix := (l1i).toInt.toNat) (aX12_compile 174 rfl) rfl (fun _ => ?_)
    refine pw_iastr (c := 152) (ix := (l1i).toInt.toNat) (aX12_compile 175 rfl) rfl (fun _ => ?_)
    refine pw_aloadn (aX12_compile 176 rfl) rfl ?_
    refine pw_getr (v := .ref (base + 153)) (aX12_compile 177 rfl) uf_RX12_117 un_RX12_117 (congrArg (fun r => va_rf (h_rf base r)) (q121_66 (hok).2.1)) ?_
    refine pw_iloadn (aX12_compile 178 rfl) rfl ?_
    refine pw_aloadn (aX12_compile 179 rfl) rfl ?_
    refine pw_getr (v := .ref (base + 150)) (aX12_compile 180 rfl) uf_RX12_108 un_RX12_108 (congrArg (fun r => va_rf (h_rf base r)) (q121_63 (hok).2.1)) ?_
    refine pw_iloadn (aX12_compile 181 rfl) rfl ?_
    refine pw_laldr (c := 150) (ix := (l1i).toInt.toNat) (aX12_compile 182 rfl) rfl (fun _ => ?_)
    refine pw_lastr (c := 153) (ix := (l1i).toInt.toNat) (aX12_compile 183 rfl) rfl (fun _ => ?_)
    refine pw_iinc (v := (l1i) + (1 : Int32)) (L2 := [(1, .int ((l1i) + (1 : Int32))), (0, .ref (base + 121)), (2, .int (l2i))]) (aX12_compile 184 rfl) rfl rfl rfl ?_
    refine pw_goto (tgt := 277) (aX12_compile 185 rfl) (by decide) ?_
    exact pw_Li (L2 := [(0, .ref (base + 121)), (1, .int ((l1i) + (1 : Int32))), (2, .int (l2i))]) [1, 0, 2] (hK277 ((l1i) + (1 : Int32)) (l2i) n sl SH (h_up FI 152 (l1i).toInt.toNat (FI 149 (l1i).toInt.toNat)) (h_up FL 153 (l1i).toInt.toNat (FL 150 (l1i).toInt.toNat)) FR hok) ⟨rfl, rfl, rfl, trivial⟩
  · skip
    refine pw_aloadn (aX12_compile 186 rfl) rfl ?_
    refine pw_iconst (v := (0 : Int32)) (aX12_compile 187 rfl) rfl ?_
    refine pw_putri (aX12_compile 188 rfl) uf_RX12_299 (fun _ _ _ => rfl) (fun t2 => ?_)
    refine pw_aloadn (aX12_compile 189 rfl) rfl ?_
    refine pw_iconst (v := (0 : Int32)) (aX12_compile 190 rfl) rfl ?_
    refine pw_putri (aX12_compile 191 rfl) uf_RX12_258 (fun _ _ _ => rfl) (fun t3 => ?_)
    refine pw_aloadn (aX12_compile 192 rfl) rfl ?_
    refine pw_iconst (v := (0 : Int32)) (aX12_compile 193 rfl) rfl ?_
    refine pw_iconst (v := (-1 : Int32)) (aX12_compile 194 rfl) rfl ?_
    refine pw_callV (Bs := [.int ((0 : Int32)), .int ((-1 : Int32))]) (rest := []) (aX12_compile 195 rfl) um_RX12_380 ujX12_tells wc_RX12_380.2.2.2.2 (by decide) (by decide) rfl rfl (fun d => rX12_tells hkb ((0 : Int32)) ((-1 : Int32)) n sl SH (h_up (h_up FI 121 31 ((0 : Int32))) 121 32 ((0 : Int32))) FL FR hok) (fun v3 n3 sl3 SH3 FI3 FL3 FR3 hok3 _ => ?_)
    show pw _ _ _ _ _ _ _ 331 _ [.int (v3)] _ _
    refine pw_pop (aX12_compile 196 rfl) ?_
    refine pw_aloadn (aX12_compile 197 rfl) rfl ?_
    refine pw_getr (v := .int (FI3 121 74)) (aX12_compile 198 rfl) uf_RX12_524 un_RX12_524 rfl ?_
    exact pw_iret (aX12_compile 199 rfl) hok3
def GX12_compile_277   : Nat → Int32 → Nat → Nat → (Nat → Nat × Nat) → (Nat → Nat → Int32) → (Nat → Nat → Int64) → (Nat → Nat → Option Nat) → Int32 → hS → Prop
  | 0, _, _, _, _, _, _, _ => fun _ _ => False
  | g + 1, l1i, n, sl, SH, FI, FL, FR => BX12_compile_277  (GX12_compile_277   g)  l1i n sl SH FI FL FR
def RX12_compile_277   (l1i : Int32) (n sl : Nat) (SH : Nat → Nat × Nat) (FI : Nat → Nat → Int32) (FL : Nat → Nat → Int64) (FR : Nat → Nat → Option Nat) : Int32 → hS → Prop := fun v s => ∃ g, GX12_compile_277   g l1i n sl SH FI FL FR v s
theorem gX12_compile_277 {sk : xK} {base d : Nat}  (hkb : x_kb sk base)  (N : Nat) :  ∀ (l1i : Int32) (l2i : Int32) (n sl : Nat) (SH : Nat → Nat × Nat) (FI : Nat → Nat → Int32) (FL : Nat → Nat → Int64) (FR : Nat → Nat → Option Nat), pk n SH FR → pw pj_I sk base N d none 225 277 [(0, .ref (base + 121)), (1, .int (l1i)), (2, .int (l2i))] [] (n, sl, SH, FI, FL, FR) (GX12_compile_277   (N + 1) l1i n sl SH FI FL FR) := by
  induction N with
  | zero => intros; exact pw_0
  | succ N ih => intro   l1i l2i n sl SH FI FL FR hok; exact bX12_compile_277 hkb  l1i l2i n sl SH FI FL FR hok  (ih  )
theorem rX12_compile_277 {sk : xK} {base N d : Nat}  (hkb : x_kb sk base)  (l1i : Int32) (l2i : Int32) (n sl : Nat) (SH : Nat → Nat × Nat) (FI : Nat → Nat → Int32) (FL : Nat → Nat → Int64) (FR : Nat → Nat → Option Nat) (hok : pk n SH FR)   : pw pj_I sk base N d none 225 277 [(0, .ref (base + 121)), (1, .int (l1i)), (2, .int (l2i))] [] (n, sl, SH, FI, FL, FR) (RX12_compile_277   l1i n sl SH FI FL FR) := pw_cons (gX12_compile_277 hkb  N   l1i l2i n sl SH FI FL FR hok) (fun _ _ h => ⟨_, h⟩)
def BX12_compile_151 (K151 : Int32 → Nat → Nat → (Nat → Nat × Nat) → (Nat → Nat → Int32) → (Nat → Nat → Int64) → (Nat → Nat → Option Nat) → Int32 → hS → Prop)  (l1i : Int32) (n sl : Nat) (SH : Nat → Nat × Nat) (FI : Nat → Nat → Int32) (FL : Nat → Nat → Int64) (FR : Nat → Nat → Option Nat) : Int32 → hS → Prop := (P_if ((l1i).toInt < (FI 121 78).toInt) (P_and (p_in (l1i) (SH 158).2) (P_and (p_in (l1i) (SH 155).2) (P_and (p_in (l1i) (SH 159).2) (P_and (p_in (l1i) (SH 156).2) (P_and (p_in (l1i) (SH 160).2) (P_and (p_in (l1i) (SH 157).2) (P_and (p_in ((l1i) + ((1 : Int32))) (SH 161).2) (P_and (p_in (l1i) (SH 161).2) (P_and (p_in (((20 : Int32)) + (l1i)) (SH 125).2) (RX12_compile_221 K151  (l1i) ((0 : Int32)) n sl SH (h_up (h_up (h_up FI 156 (l1i).toInt.toNat (FI 159 (l1i).toInt.toNat)) 157 (l1i).toInt.toNat (FI 160 (l1i).toInt.toNat)) 125 (((20 : Int32)) + (l1i)).toInt.toNat ((FI 161 ((l1i) + ((1 : Int32))).toInt.toNat) - (FI 161 (l1i).toInt.toNat))) (h_up FL 155 (l1i).toInt.toNat (FL 158 (l1i).toInt.toNat)) FR)))))))))) (RX12_compile_277   ((0 : Int32)) n sl SH FI FL FR))
set_option maxHeartbeats 4000000 in
set_option maxRecDepth 100000 in
theorem bX12_compile_151 {sk : xK} {base N d : Nat} {K151 : Int32 → Nat → Nat → (Nat → Nat × Nat) → (Nat → Nat → Int32) → (Nat → Nat → Int64) → (Nat → Nat → Option Nat) → Int32 → hS → Prop} (hkb : x_kb sk base)  (l1i : Int32) (l2i : Int32) (n sl : Nat) (SH : Nat → Nat × Nat) (FI : Nat → Nat → Int32) (FL : Nat → Nat → Int64) (FR : Nat → Nat → Option Nat) (hok : pk n SH FR)  (hK151 : ∀ (l1i : Int32) (l2i : Int32) (n sl : Nat) (SH : Nat → Nat × Nat) (FI : Nat → Nat → Int32) (FL : Nat → Nat → Int64) (FR : Nat → Nat → Option Nat), pk n SH FR → pw pj_I sk base N d none 225 151 [(0, .ref (base + 121)), (1, .int (l1i)), (2, .int (l2i))] [] (n, sl, SH, FI, FL, FR) (K151 l1i n sl SH FI FL FR)) : pw pj_I sk base (N + 1) d none 225 151 [(0, .ref (base + 121)), (1, .int (l1i)), (2, .int (l2i))] [] (n, sl, SH, FI, FL, FR) (BX12_compile_151 K151  l1i n sl SH FI FL FR) := by
  unfold BX12_compile_151
  refine pd_iloadn (aX12_compile 84 rfl) rfl ?_
  refine pw_aloadn (aX12_compile 85 rfl) rfl ?_
  refine pw_getr (v := .int (FI 121 78)) (aX12_compile 86 rfl) uf_RX12_515 un_RX12_515 rfl ?_
  refine pw_icge (tgt := 275) (aX12_compile 87 rfl) (by decide) (fun b0 => ?_) (fun b0 => ?_)
  · skip
    refine pw_aloadn (aX12_compile 88 rfl) rfl ?_
    refine pw_getr (v := .ref (base + 155)) (aX12_compile 89 rfl) uf_RX12_123 un_RX12_123 (congrArg (fun r => va_rf (h_rf base r)) (q121_75 (hok).2.1)) ?_
    refine pw_iloadn (aX12_compile 90 rfl) rfl ?_
    refine pw_aloadn (aX12_compile 91 rfl) rfl ?_
    refine pw_getr (v := .ref (base + 158)) (aX12_compile 92 rfl) uf_RX12_132 un_RX12_132 (congrArg (fun r => va_rf (h_rf base r)) (q121_79 (hok).2.1)) ?_
    refine pw_iloadn (aX12_compile 93 rfl) rfl ?_
    refine pw_laldr (c := 158) (ix := (l1i).toInt.toNat) (aX12_compile 94 rfl) rfl (fun _ => ?_)
    refine pw_lastr (c := 155) (ix := (l1i).toInt.toNat) (aX12_compile 95 rfl) rfl (fun _ => ?_)
    refine pw_aloadn (aX12_compile 96 rfl) rfl ?_
    refine pw_getr (v := .ref (base + 156)) (aX12_compile 97 rfl) uf_RX12_126 un_RX12_126 (congrArg (fun r => va_rf (h_rf base r)) (q121_76 (hok).2.1)) ?_
    refine pw_iloadn (aX12_compile 98 rfl) rfl ?_
    refine pw_aloadn (aX12_compile 99 rfl) rfl ?_
    refine pw_getr (v := .ref (base + 159)) (aX12_compile 100 rfl) uf_RX12_135 un_RX12_135 (congrArg (fun r => va_rf (h_rf base r)) (q121_80 (hok).2.1)) ?_
    refine pw_iloadn (aX12_compile 101 rfl) rfl ?_
    refine pw_ialdr (c := 159) (ix := (l1i).toInt.toNat) (aX12_compile 102 rfl) rfl (fun _ => ?_)
    refine pw_iastr (c := 156) (ix := (l1i).toInt.toNat) (aX12_compile 103 rfl) rfl (fun _ => ?_)
    refine pw_aloadn (aX12_compile 104 rfl) rfl ?_
    refine pw_getr (v := .ref (base + 157)) (aX12_compile 105 rfl) uf_RX12_129 un_RX12_129 (congrArg (fun r => va_rf (h_rf base r)) (q121_77 (hok).2.1)) ?_
    refine pw_iloadn (aX12_compile 106 rfl) rfl ?_
    refine pw_aloadn (aX12_compile 107 rfl) rfl ?_
    refine pw_getr (v := .ref (base + 160)) (aX12_compile 108 rfl) uf_RX12_138 un_RX12_138 (congrArg (fun r => va_rf (h_rf base r)) (q121_81 (hok).2.1)) ?_
    refine pw_iloadn (aX12_compile 109 rfl) rfl ?_
    refine pw_ialdr (c := 160) (ix := (l1i).toInt.toNat) (aX12_compile 110 rfl) rfl (fun _ => ?_)
    refine pw_iastr (c := 157) (ix := (l1i).toInt.toNat) (aX12_compile 111 rfl) rfl (fun _ => ?_)
    refine pw_aloadn (aX12_compile 112 rfl) rfl ?_
    refine pw_getr (v := .ref (base + 125)) (aX12_compile 113 rfl) uf_RX12_20 un_RX12_20 (congrArg (fun r => va_rf (h_rf base r)) (q121_4 (hok).2.1)) ?_
    refine pw_bipush (v := (20 : Int32)) (aX12_compile 114 rfl) rfl ?_
    refine pw_iloadn (aX12_compile 115 rfl) rfl ?_
    refine pw_iadd (aX12_compile 116 rfl) ?_
    refine pw_aloadn (aX12_compile 117 rfl) rfl ?_
    refine pw_getr (v := .ref (base + 161)) (aX12_compile 118 rfl) uf_RX12_141 un_RX12_141 (congrArg (fun r => va_rf (h_rf base r)) (q121_82 (hok).2.1)) ?_
    refine pw_iloadn (aX12_compile 119 rfl) rfl ?_
    refine pw_iconst (v := (1 : Int32)) (aX12_compile 120 rfl) rfl ?_
    refine pw_iadd (aX12_compile 121 rfl) ?_
    refine pw_ialdr (c := 161) (ix := ((l1i) + ((1 : Int32))).toInt.toNat) (aX12_compile 122 rfl) rfl (fun _ => ?_)
    refine pw_aloadn (aX12_compile 123 rfl) rfl ?_
    refine pw_getr (v := .ref (base + 161)) (aX12_compile 124 rfl) uf_RX12_141 un_RX12_141 (congrArg (fun r => va_rf (h_rf base r)) (q121_82 (hok).2.1)) ?_
    refine pw_iloadn (aX12_compile 125 rfl) rfl ?_
    refine pw_ialdr (c := 161) (ix := (l1i).toInt.toNat) (aX12_compile 126 rfl) rfl (fun _ => ?_)
    refine pw_isub (aX12_compile 127 rfl) ?_
    refine pw_iastr (c := 125) (ix := (((20 : Int32)) + (l1i)).toInt.toNat) (aX12_compile 128 rfl) rfl (fun _ => ?_)
    refine pw_iconst (v := (0 : Int32)) (aX12_compile 129 rfl) rfl ?_
    refine pw_istoren (L2 := [(2, .int ((0 : Int32))), (0, .ref (base + 121)), (1, .int (l1i))]) (aX12_compile 130 rfl) rfl ?_
    exact pw_Li (L2 := [(0, .ref (base + 121)), (1, .int (l1i)), (2, .int ((0 : Int32)))]) [2, 0, 1] (rX12_compile_221 hkb  (l1i) ((0 : Int32)) n sl SH (h_up (h_up (h_up FI 156 (l1i).toInt.toNat (FI 159 (l1i).toInt.toNat)) 157 (l1i).toInt.toNat (FI 160 (l1i).toInt.toNat)) 125 (((20 : Int32)) + (l1i)).toInt.toNat ((FI 161 ((l1i) + ((1 : Int32))).toInt.toNat) - (FI 161 (l1i).toInt.toNat))) (h_up FL 155 (l1i).toInt.toNat (FL 158 (l1i).toInt.toNat)) FR hok  hK151) ⟨rfl, rfl, rfl, trivial⟩
  · skip
    refine pw_iconst (v := (0 : Int32)) (aX12_compile 162 rfl) rfl ?_
    refine pw_istoren (L2 := [(1, .int ((0 : Int32))), (0, .ref (base + 121)), (2, .int (l2i))]) (aX12_compile 163 rfl) rfl ?_
    exact pw_Li (L2 := [(0, .ref (base + 121)), (1, .int ((0 : Int32))), (2, .int (l2i))]) [1, 0, 2] (rX12_compile_277 hkb  ((0 : Int32)) (l2i) n sl SH FI FL FR hok  ) ⟨rfl, rfl, rfl, trivial⟩
def GX12_compile_151   : Nat → Int32 → Nat → Nat → (Nat → Nat × Nat) → (Nat → Nat → Int32) → (Nat → Nat → Int64) → (Nat → Nat → Option Nat) → Int32 → hS → Prop
  | 0, _, _, _, _, _, _, _ => fun _ _ => False
  | g + 1, l1i, n, sl, SH, FI, FL, FR => BX12_compile_151  (GX12_compile_151   g)  l1i n sl SH FI FL FR
def RX12_compile_151   (l1i : Int32) (n sl : Nat) (SH : Nat → Nat × Nat) (FI : Nat → Nat → Int32) (FL : Nat → Nat → Int64) (FR : Nat → Nat → Option Nat) : Int32 → hS → Prop := fun v s => ∃ g, GX12_compile_151   g l1i n sl SH FI FL FR v s
theorem gX12_compile_151 {sk : xK} {base d : Nat}  (hkb : x_kb sk base)  (N : Nat) :  ∀ (l1i : Int32) (l2i : Int32) (n sl : Nat) (SH : Nat → Nat × Nat) (FI : Nat → Nat → Int32) (FL : Nat → Nat → Int64) (FR : Nat → Nat → Option Nat), pk n SH FR → pw pj_I sk base N d none 225 151 [(0, .ref (base + 121)), (1, .int (l1i)), (2, .int (l2i))] [] (n, sl, SH, FI, FL, FR) (GX12_compile_151   (N + 1) l1i n sl SH FI FL FR) := by
  induction N with
  | zero => intros; exact pw_0
  | succ N ih => intro   l1i l2i n sl SH FI FL FR hok; exact bX12_compile_151 hkb  l1i l2i n sl SH FI FL FR hok  (ih  )
theorem rX12_compile_151 {sk : xK} {base N d : Nat}  (hkb : x_kb sk base)  (l1i : Int32) (l2i : Int32) (n sl : Nat) (SH : Nat → Nat × Nat) (FI : Nat → Nat → Int32) (FL : Nat → Nat → Int64) (FR : Nat → Nat → Option Nat) (hok : pk n SH FR)   : pw pj_I sk base N d none 225 151 [(0, .ref (base + 121)), (1, .int (l1i)), (2, .int (l2i))] [] (n, sl, SH, FI, FL, FR) (RX12_compile_151   l1i n sl SH FI FL FR) := pw_cons (gX12_compile_151 hkb  N   l1i l2i n sl SH FI FL FR hok) (fun _ _ h => ⟨_, h⟩)
def BX12_compile_82 (K82 : Int32 → Nat → Nat → (Nat → Nat × Nat) → (Nat → Nat → Int32) → (Nat → Nat → Int64) → (Nat → Nat → Option Nat) → Int32 → hS → Prop)  (l1i : Int32) (n sl : Nat) (SH : Nat → Nat × Nat) (FI : Nat → Nat → Int32) (FL : Nat → Nat → Int64) (FR : Nat → Nat → Option Nat) : Int32 → hS → Prop := (P_if ((l1i).toInt < (FI 121 78).toInt) (P_and (p_in ((l1i) + ((1 : Int32))) (SH 161).2) (P_and (p_in (l1i) (SH 161).2) (P_and (p_in (l1i) (SH 163).2) (P_if ((FI 163 (l1i).toInt.toNat).toInt = 0) (P_if (((600 : Int32)).toInt < ((FI 161 ((l1i) + ((1 : Int32))).toInt.toNat) - (FI 161 (l1i).toInt.toNat)).toInt) (P_and (p_in (l1i) (SH 162).2) (P_bi (RX12_faulty ((7 : Int32)) (FI 162 (l1i).toInt.toNat) n sl SH FI FL FR) (fun v3 n3 sl3 SH3 FI3 FL3 FR3 => (P_ret (v3) (n3, sl3, SH3, FI3, FL3, FR3))))) (K82 ((l1i) + (1 : Int32)) n sl SH FI FL FR)) (P_and (p_in (l1i) (SH 162).2) (P_bi (RX12_faulty ((7 : Int32)) (FI 162 (l1i).toInt.toNat) n sl SH FI FL FR) (fun v4 n4 sl4 SH4 FI4 FL4 FR4 => (P_ret (v4) (n4, sl4, SH4, FI4, FL4, FR4))))))))) (RX12_compile_151   ((0 : Int32)) n sl SH (h_up FI 121 74 (FI 121 78)) FL FR))
set_option maxHeartbeats 4000000 in
set_option maxRecDepth 100000 in
theorem bX12_compile_82 {sk : xK} {base N d : Nat} {K82 : Int32 → Nat → Nat → (Nat → Nat × Nat) → (Nat → Nat → Int32) → (Nat → Nat → Int64) → (Nat → Nat → Option Nat) → Int32 → hS → Prop} (hkb : x_kb sk base)  (l1i : Int32) (l2i : Int32) (n sl : Nat) (SH : Nat → Nat × Nat) (FI : Nat → Nat → Int32) (FL : Nat → Nat → Int64) (FR : Nat → Nat → Option Nat) (hok : pk n SH FR)  (hK82 : ∀ (l1i : Int32) (l2i : Int32) (n sl : Nat) (SH : Nat → Nat × Nat) (FI : Nat → Nat → Int32) (FL : Nat → Nat → Int64) (FR : Nat → Nat → Option Nat), pk n SH FR → pw pj_I sk base N d none 225 82 [(0, .ref (base + 121)), (1, .int (l1i)), (2, .int (l2i))] [] (n, sl, SH, FI, FL, FR) (K82 l1i n sl SH FI FL FR)) : pw pj_I sk base (N + 1) d none 225 82 [(0, .ref (base + 121)), (1, .int (l1i)), (2, .int (l2i))] [] (n, sl, SH, FI, FL, FR) (BX12_compile_82 K82  l1i n sl SH FI FL FR) := by
  unfold BX12_compile_82
  refine pd_iloadn (aX12_compile 44 rfl) rfl ?_
  refine pw_aloadn (aX12_compile 45 rfl) rfl ?_
  refine pw_getr (v := .int (FI 121 78)) (aX12_compile 46 rfl) uf_RX12_515 un_RX12_515 rfl ?_
  refine pw_icge (tgt := 141) (aX12_compile 47 rfl) (by decide) (fun b0 => ?_) (fun b0 => ?_)
  · skip
    refine pw_aloadn (aX12_compile 48 rfl) rfl ?_
    refine pw_getr (v := .ref (base + 161)) (aX12_compile 49 rfl) uf_RX12_141 un_RX12_141 (congrArg (fun r => va_rf (h_rf base r)) (q121_82 (hok).2.1)) ?_
    refine pw_iloadn (aX12_compile 50 rfl) rfl ?_
    refine pw_iconst (v := (1 : Int32)) (aX12_compile 51 rfl) rfl ?_
    refine pw_iadd (aX12_compile 52 rfl) ?_
    refine pw_ialdr (c := 161) (ix := ((l1i) + ((1 : Int32))).toInt.toNat) (aX12_compile 53 rfl) rfl (fun _ => ?_)
    refine pw_aloadn (aX12_compile 54 rfl) rfl ?_
    refine pw_getr (v := .ref (base + 161)) (aX12_compile 55 rfl) uf_RX12_141 un_RX12_141 (congrArg (fun r => va_rf (h_rf base r)) (q121_82 (hok).2.1)) ?_
    refine pw_iloadn (aX12_compile 56 rfl) rfl ?_
    refine pw_ialdr (c := 161) (ix := (l1i).toInt.toNat) (aX12_compile 57 rfl) rfl (fun _ => ?_)
    refine pw_isub (aX12_compile 58 rfl) ?_
    refine pw_istoren (L2 := [(2, .int ((FI 161 ((l1i) + ((1 : Int32))).toInt.toNat) - (FI 161 (l1i).toInt.toNat))), (0, .ref (base + 121)), (1, .int (l1i))]) (aX12_compile 59 rfl) rfl ?_
    refine pw_aloadn (aX12_compile 60 rfl) rfl ?_
    refine pw_getr (v := .ref (base + 163)) (aX12_compile 61 rfl) uf_RX12_147 un_RX12_147 (congrArg (fun r => va_rf (h_rf base r)) (q121_84 (hok).2.1)) ?_
    refine pw_iloadn (aX12_compile 62 rfl) rfl ?_
    refine pw_zaldr hkb (c := 163) (ix := (l1i).toInt.toNat) (aX12_compile 63 rfl) rfl (fun _ => ?_)
    refine pw_ifne (tgt := 122) (aX12_compile 64 rfl) (by decide) (fun b1 => ?_) (fun b1 => ?_)
    · skip
      refine pw_iloadn (aX12_compile 65 rfl) rfl ?_
      refine pw_sipush (v := (600 : Int32)) (aX12_compile 66 rfl) rfl ?_
      refine pw_icle (tgt := 135) (aX12_compile 67 rfl) (by decide) (fun b2 => ?_) (fun b2 => ?_)
      · skip
        refine pw_aloadn (aX12_compile 68 rfl) rfl ?_
        refine pw_bipush (v := (7 : Int32)) (aX12_compile 69 rfl) rfl ?_
        refine pw_aloadn (aX12_compile 70 rfl) rfl ?_
        refine pw_getr (v := .ref (base + 162)) (aX12_compile 71 rfl) uf_RX12_144 un_RX12_144 (congrArg (fun r => va_rf (h_rf base r)) (q121_83 (hok).2.1)) ?_
        refine pw_iloadn (aX12_compile 72 rfl) rfl ?_
        refine pw_ialdr (c := 162) (ix := (l1i).toInt.toNat) (aX12_compile 73 rfl) rfl (fun _ => ?_)
        refine pw_callV (Bs := [.int ((7 : Int32)), .int (FI 162 (l1i).toInt.toNat)]) (rest := []) (aX12_compile 74 rfl) um_RX12_521 ujX12_faulty wc_RX12_521.2.2.2.2 (by decide) (by decide) rfl rfl (fun d => rX12_faulty hkb ((7 : Int32)) (FI 162 (l1i).toInt.toNat) n sl SH FI FL FR hok) (fun v3 n3 sl3 SH3 FI3 FL3 FR3 hok3 _ => ?_)
        show pw _ _ _ _ _ _ _ 134 _ [.int (v3)] _ _
        exact pw_iret (aX12_compile 75 rfl) hok3
      · skip
        refine pw_iinc (v := (l1i) + (1 : Int32)) (L2 := [(1, .int ((l1i) + (1 : Int32))), (2, .int ((FI 161 ((l1i) + ((1 : Int32))).toInt.toNat) - (FI 161 (l1i).toInt.toNat))), (0, .ref (base + 121))]) (aX12_compile 76 rfl) rfl rfl rfl ?_
        refine pw_goto (tgt := 82) (aX12_compile 77 rfl) (by decide) ?_
        exact pw_Li (L2 := [(0, .ref (base + 121)), (1, .int ((l1i) + (1 : Int32))), (2, .int ((FI 161 ((l1i) + ((1 : Int32))).toInt.toNat) - (FI 161 (l1i).toInt.toNat)))]) [1, 2, 0] (hK82 ((l1i) + (1 : Int32)) ((FI 161 ((l1i) + ((1 : Int32))).toInt.toNat) - (FI 161 (l1i).toInt.toNat)) n sl SH FI FL FR hok) ⟨rfl, rfl, rfl, trivial⟩
    · skip
      refine pw_aloadn (aX12_compile 68 rfl) rfl ?_
      refine pw_bipush (v := (7 : Int32)) (aX12_compile 69 rfl) rfl ?_
      refine pw_aloadn (aX12_compile 70 rfl) rfl ?_
      refine pw_getr (v := .ref (base + 162)) (aX12_compile 71 rfl) uf_RX12_144 un_RX12_144 (congrArg (fun r => va_rf (h_rf base r)) (q121_83 (hok).2.1)) ?_
      refine pw_iloadn (aX12_compile 72 rfl) rfl ?_
      refine pw_ialdr (c := 162) (ix := (l1i).toInt.toNat) (aX12_compile 73 rfl) rfl (fun _ => ?_)
      refine pw_callV (Bs := [.int ((7 : Int32)), .int (FI 162 (l1i).toInt.toNat)]) (rest := []) (aX12_compile 74 rfl) um_RX12_521 ujX12_faulty wc_RX12_521.2.2.2.2 (by decide) (by decide) rfl rfl (fun d => rX12_faulty hkb ((7 : Int32)) (FI 162 (l1i).toInt.toNat) n sl SH FI FL FR hok) (fun v4 n4 sl4 SH4 FI4 FL4 FR4 hok4 _ => ?_)
      show pw _ _ _ _ _ _ _ 134 _ [.int (v4)] _ _
      exact pw_iret (aX12_compile 75 rfl) hok4
  · skip
    refine pw_aloadn (aX12_compile 78 rfl) rfl ?_
    refine pw_aloadn (aX12_compile 79 rfl) rfl ?_
    refine pw_getr (v := .int (FI 121 78)) (aX12_compile 80 rfl) uf_RX12_515 un_RX12_515 rfl ?_
    refine pw_putri (aX12_compile 81 rfl) uf_RX12_524 (fun _ _ _ => rfl) (fun t6 => ?_)
    refine pw_iconst (v := (0 : Int32)) (aX12_compile 82 rfl) rfl ?_
    refine pw_istoren (L2 := [(1, .int ((0 : Int32))), (0, .ref (base + 121)), (2, .int (l2i))]) (aX12_compile 83 rfl) rfl ?_
    exact pw_Li (L2 := [(0, .ref (base + 121)), (1, .int ((0 : Int32))), (2, .int (l2i))]) [1, 0, 2] (rX12_compile_151 hkb  ((0 : Int32)) (l2i) n sl SH (h_up FI 121 74 (FI 121 78)) FL FR hok  ) ⟨rfl, rfl, rfl, trivial⟩
def GX12_compile_82   : Nat → Int32 → Nat → Nat → (Nat → Nat × Nat) → (Nat → Nat → Int32) → (Nat → Nat → Int64) → (Nat → Nat → Option Nat) → Int32 → hS → Prop
  | 0, _, _, _, _, _, _, _ => fun _ _ => False
  | g + 1, l1i, n, sl, SH, FI, FL, FR => BX12_compile_82  (GX12_compile_82   g)  l1i n sl SH FI FL FR
def RX12_compile_82   (l1i : Int32) (n sl : Nat) (SH : Nat → Nat × Nat) (FI : Nat → Nat → Int32) (FL : Nat → Nat → Int64) (FR : Nat → Nat → Option Nat) : Int32 → hS → Prop := fun v s => ∃ g, GX12_compile_82   g l1i n sl SH FI FL FR v s
theorem gX12_compile_82 {sk : xK} {base d : Nat}  (hkb : x_kb sk base)  (N : Nat) :  ∀ (l1i : Int32) (l2i : Int32) (n sl : Nat) (SH : Nat → Nat × Nat) (FI : Nat → Nat → Int32) (FL : Nat → Nat → Int64) (FR : Nat → Nat → Option Nat), pk n SH FR → pw pj_I sk base N d none 225 82 [(0, .ref (base + 121)), (1, .int (l1i)), (2, .int (l2i))] [] (n, sl, SH, FI, FL, FR) (GX12_compile_82   (N + 1) l1i n sl SH FI FL FR) := by
  induction N with
  | zero => intros; exact pw_0
  | succ N ih => intro   l1i l2i n sl SH FI FL FR hok; exact bX12_compile_82 hkb  l1i l2i n sl SH FI FL FR hok  (ih  )
theorem rX12_compile_82 {sk : xK} {base N d : Nat}  (hkb : x_kb sk base)  (l1i : Int32) (l2i : Int32) (n sl : Nat) (SH : Nat → Nat × Nat) (FI : Nat → Nat → Int32) (FL : Nat → Nat → Int64) (FR : Nat → Nat → Option Nat) (hok : pk n SH FR)   : pw pj_I sk base N d none 225 82 [(0, .ref (base + 121)), (1, .int (l1i)), (2, .int (l2i))] [] (n, sl, SH, FI, FL, FR) (RX12_compile_82   l1i n sl SH FI FL FR) := pw_cons (gX12_compile_82 hkb  N   l1i l2i n sl SH FI FL FR hok) (fun _ _ h => ⟨_, h⟩)
def RX12_compile_60    (n sl : Nat) (SH : Nat → Nat × Nat) (FI : Nat → Nat → Int32) (FL : Nat → Nat → Int64) (FR : Nat → Nat → Option Nat) : Int32 → hS → Prop := (P_if ((FI 121 69).toInt = 0) (RX12_compile_82   ((0 : Int32)) n sl SH FI FL FR) (P_bi (RX12_faulty (FI 121 69) (FI 121 70) n sl SH FI FL FR) (fun v1 n1 sl1 SH1 FI1 FL1 FR1 => (P_ret (v1) (n1, sl1, SH1, FI1, FL1, FR1)))))
set_option maxHeartbeats 4000000 in
set_option maxRecDepth 100000 in
theorem rX12_compile_60 {sk : xK} {base N d : Nat}  (hkb : x_kb sk base)    (n sl : Nat) (SH : Nat → Nat × Nat) (FI : Nat → Nat → Int32) (FL : Nat → Nat → Int64) (FR : Nat → Nat → Option Nat) (hok : pk n SH FR)   : pw pj_I sk base N d none 225 60 [(0, .ref (base + 121))] [] (n, sl, SH, FI, FL, FR) (RX12_compile_60    n sl SH FI FL FR) := by
  unfold RX12_compile_60
  refine pw_aloadn (aX12_compile 32 rfl) rfl ?_
  refine pw_getr (v := .int (FI 121 69)) (aX12_compile 33 rfl) uf_RX12_475 un_RX12_475 rfl ?_
  refine pw_ifeq (tgt := 80) (aX12_compile 34 rfl) (by decide) (fun b0 => ?_) (fun b0 => ?_)
  · skip
    refine pw_iconst (v := (0 : Int32)) (aX12_compile 42 rfl) rfl ?_
    refine pw_istoren (L2 := [(1, .int ((0 : Int32))), (0, .ref (base + 121))]) (aX12_compile 43 rfl) rfl ?_
    exact pw_Li (L2 := [(0, .ref (base + 121)), (1, .int ((0 : Int32))), (2, .int 0)]) [1, 0] (rX12_compile_82 hkb  ((0 : Int32)) 0 n sl SH FI FL FR hok  ) ⟨rfl, rfl, trivial⟩
  · skip
    refine pw_aloadn (aX12_compile 35 rfl) rfl ?_
    refine pw_aloadn (aX12_compile 36 rfl) rfl ?_
    refine pw_getr (v := .int (FI 121 69)) (aX12_compile 37 rfl) uf_RX12_475 un_RX12_475 rfl ?_
    refine pw_aloadn (aX12_compile 38 rfl) rfl ?_
    refine pw_getr (v := .int (FI 121 70)) (aX12_compile 39 rfl) uf_RX12_481 un_RX12_481 rfl ?_
    refine pw_callV (Bs := [.int (FI 121 69), .int (FI 121 70)]) (rest := []) (aX12_compile 40 rfl) um_RX12_521 ujX12_faulty wc_RX12_521.2.2.2.2 (by decide) (by decide) rfl rfl (fun d => rX12_faulty hkb (FI 121 69) (FI 121 70) n sl SH FI FL FR hok) (fun v1 n1 sl1 SH1 FI1 FL1 FR1 hok1 _ => ?_)
    show pw _ _ _ _ _ _ _ 79 _ [.int (v1)] _ _
    exact pw_iret (aX12_compile 41 rfl) hok1
def BX12_compile_34 (K34 : Nat → Nat → (Nat → Nat × Nat) → (Nat → Nat → Int32) → (Nat → Nat → Int64) → (Nat → Nat → Option Nat) → Int32 → hS → Prop)   (n sl : Nat) (SH : Nat → Nat × Nat) (FI : Nat → Nat → Int32) (FL : Nat → Nat → Int64) (FR : Nat → Nat → Option Nat) : Int32 → hS → Prop := (P_if ((FI 121 69).toInt = 0) (P_and (p_in (FI 121 68) (SH 149).2) (P_if ((FI 149 (FI 121 68).toInt.toNat).toInt = 0) (RX12_compile_60    n sl SH FI FL FR) (P_bi (RX12_declared  n sl SH FI FL FR) (fun v2 n2 sl2 SH2 FI2 FL2 FR2 => (K34  n2 sl2 SH2 FI2 FL2 FR2))))) (RX12_compile_60    n sl SH FI FL FR))
set_option maxHeartbeats 4000000 in
set_option maxRecDepth 100000 in
theorem bX12_compile_34 {sk : xK} {base N d : Nat} {K34 : Nat → Nat → (Nat → Nat × Nat) → (Nat → Nat → Int32) → (Nat → Nat → Int64) → (Nat → Nat → Option Nat) → Int32 → hS → Prop} (hkb : x_kb sk base)    (n sl : Nat) (SH : Nat → Nat × Nat) (FI : Nat → Nat → Int32) (FL : Nat → Nat → Int64) (FR : Nat → Nat → Option Nat) (hok : pk n SH FR)  (hK34 : ∀  (n sl : Nat) (SH : Nat → Nat × Nat) (FI : Nat → Nat → Int32) (FL : Nat → Nat → Int64) (FR : Nat → Nat → Option Nat), pk n SH FR → pw pj_I sk base N d none 225 34 [(0, .ref (base + 121))] [] (n, sl, SH, FI, FL, FR) (K34  n sl SH FI FL FR)) : pw pj_I sk base (N + 1) d none 225 34 [(0, .ref (base + 121))] [] (n, sl, SH, FI, FL, FR) (BX12_compile_34 K34   n sl SH FI FL FR) := by
  unfold BX12_compile_34
  refine pd_aloadn (aX12_compile 20 rfl) rfl ?_
  refine pw_getr (v := .int (FI 121 69)) (aX12_compile 21 rfl) uf_RX12_475 un_RX12_475 rfl ?_
  refine pw_ifne (tgt := 60) (aX12_compile 22 rfl) (by decide) (fun b0 => ?_) (fun b0 => ?_)
  · skip
    refine pw_aloadn (aX12_compile 23 rfl) rfl ?_
    refine pw_getr (v := .ref (base + 149)) (aX12_compile 24 rfl) uf_RX12_105 un_RX12_105 (congrArg (fun r => va_rf (h_rf base r)) (q121_62 (hok).2.1)) ?_
    refine pw_aloadn (aX12_compile 25 rfl) rfl ?_
    refine pw_getr (v := .int (FI 121 68)) (aX12_compile 26 rfl) uf_RX12_478 un_RX12_478 rfl ?_
    refine pw_ialdr (c := 149) (ix := (FI 121 68).toInt.toNat) (aX12_compile 27 rfl) rfl (fun _ => ?_)
    refine pw_ifeq (tgt := 60) (aX12_compile 28 rfl) (by decide) (fun b1 => ?_) (fun b1 => ?_)
    · skip
      exact pw_Li (L2 := [(0, .ref (base + 121))]) [0] (rX12_compile_60 hkb   n sl SH FI FL FR hok  ) ⟨rfl, trivial⟩
    · skip
      refine pw_aloadn (aX12_compile 29 rfl) rfl ?_
      refine pw_callV (Bs := []) (rest := []) (aX12_compile 30 rfl) um_RX12_518 ujX12_declared wc_RX12_518.2.2.2.2 (by decide) (by decide) rfl rfl (fun d => rX12_declared hkb  n sl SH FI FL FR hok) (fun v2 n2 sl2 SH2 FI2 FL2 FR2 hok2 _ => ?_)
      show pw _ _ _ _ _ _ _ 57 _ [] _ _
      refine pw_goto (tgt := 34) (aX12_compile 31 rfl) (by decide) ?_
      exact pw_Li (L2 := [(0, .ref (base + 121))]) [0] (hK34  n2 sl2 SH2 FI2 FL2 FR2 hok2) ⟨rfl, trivial⟩
  · skip
    exact pw_Li (L2 := [(0, .ref (base + 121))]) [0] (rX12_compile_60 hkb   n sl SH FI FL FR hok  ) ⟨rfl, trivial⟩
def GX12_compile_34   : Nat → Nat → Nat → (Nat → Nat × Nat) → (Nat → Nat → Int32) → (Nat → Nat → Int64) → (Nat → Nat → Option Nat) → Int32 → hS → Prop
  | 0, _, _, _, _, _, _ => fun _ _ => False
  | g + 1, n, sl, SH, FI, FL, FR => BX12_compile_34  (GX12_compile_34   g)   n sl SH FI FL FR
def RX12_compile_34    (n sl : Nat) (SH : Nat → Nat × Nat) (FI : Nat → Nat → Int32) (FL : Nat → Nat → Int64) (FR : Nat → Nat → Option Nat) : Int32 → hS → Prop := fun v s => ∃ g, GX12_compile_34   g  n sl SH FI FL FR v s
theorem gX12_compile_34 {sk : xK} {base d : Nat}  (hkb : x_kb sk base)  (N : Nat) :  ∀   (n sl : Nat) (SH : Nat → Nat × Nat) (FI : Nat → Nat → Int32) (FL : Nat → Nat → Int64) (FR : Nat → Nat → Option Nat), pk n SH FR → pw pj_I sk base N d none 225 34 [(0, .ref (base + 121))] [] (n, sl, SH, FI, FL, FR) (GX12_compile_34   (N + 1)  n sl SH FI FL FR) := by
  induction N with
  | zero => intros; exact pw_0
  | succ N ih => intro     n sl SH FI FL FR hok; exact bX12_compile_34 hkb    n sl SH FI FL FR hok  (ih  )
theorem rX12_compile_34 {sk : xK} {base N d : Nat}  (hkb : x_kb sk base)    (n sl : Nat) (SH : Nat → Nat × Nat) (FI : Nat → Nat → Int32) (FL : Nat → Nat → Int64) (FR : Nat → Nat → Option Nat) (hok : pk n SH FR)   : pw pj_I sk base N d none 225 34 [(0, .ref (base + 121))] [] (n, sl, SH, FI, FL, FR) (RX12_compile_34    n sl SH FI FL FR) := pw_cons (gX12_compile_34 hkb  N     n sl SH FI FL FR hok) (fun _ _ h => ⟨_, h⟩)
def RX12_compile  (n sl : Nat) (SH : Nat → Nat × Nat) (FI : Nat → Nat → Int32) (FL : Nat → Nat → Int64) (FR : Nat → Nat → Option Nat) : Int32 → hS → Prop := (P_bi (RX12_tokens  n sl SH (h_up FI 121 0 ((0 : Int32))) FL FR) (fun v1 n1 sl1 SH1 FI1 FL1 FR1 => (RX12_compile_34    n1 sl1 SH1 (h_up (h_up (h_up (h_up (h_up FI1 121 13 ((0 : Int32))) 121 68 ((0 : Int32))) 121 69 ((0 : Int32))) 121 78 ((0 : Int32))) 121 73 ((0 : Int32))) FL1 FR1)))
set_option maxHeartbeats 4000000 in
set_option maxRecDepth 100000 in
theorem rX12_compile {sk : xK} {base N d : Nat} (hkb : x_kb sk base)  (n sl : Nat) (SH : Nat → Nat × Nat) (FI : Nat → Nat → Int32) (FL : Nat → Nat → Int64) (FR : Nat → Nat → Option Nat) (hok : pk n SH FR)  : pw pj_I sk base N d none 225 0 [(0, .ref (base + 121))] [] (n, sl, SH, FI, FL, FR) (RX12_compile  n sl SH FI FL FR) := by
  unfold RX12_compile
  refine pw_aloadn (aX12_compile 0 rfl) rfl ?_
  refine pw_iconst (v := (0 : Int32)) (aX12_compile 1 rfl) rfl ?_
  refine pw_putri (aX12_compile 2 rfl) uf_RX12_187 (fun _ _ _ => rfl) (fun t1 => ?_)
  refine pw_aloadn (aX12_compile 3 rfl) rfl ?_
  refine pw_callV (Bs := []) (rest := []) (aX12_compile 4 rfl) um_RX12_513 ujX12_tokens wc_RX12_513.2.2.2.2 (by decide) (by decide) rfl rfl (fun d => rX12_tokens hkb  n sl SH (h_up FI 121 0 ((0 : Int32))) FL FR hok) (fun v1 n1 sl1 SH1 FI1 FL1 FR1 hok1 _ => ?_)
  show pw _ _ _ _ _ _ _ 9 _ [] _ _
  refine pw_aloadn (aX12_compile 5 rfl) rfl ?_
  refine pw_iconst (v := (0 : Int32)) (aX12_compile 6 rfl) rfl ?_
  refine pw_putri (aX12_compile 7 rfl) uf_RX12_190 (fun _ _ _ => rfl) (fun t3 => ?_)
  refine pw_aloadn (aX12_compile 8 rfl) rfl ?_
  refine pw_iconst (v := (0 : Int32)) (aX12_compile 9 rfl) rfl ?_
  refine pw_putri (aX12_compile 10 rfl) uf_RX12_478 (fun _ _ _ => rfl) (fun t4 => ?_)
  refine pw_aloadn (aX12_compile 11 rfl) rfl ?_
  refine pw_iconst (v := (0 : Int32)) (aX12_compile 12 rfl) rfl ?_
  refine pw_putri (aX12_compile 13 rfl) uf_RX12_475 (fun _ _ _ => rfl) (fun t5 => ?_)
  refine pw_aloadn (aX12_compile 14 rfl) rfl ?_
  refine pw_iconst (v := (0 : Int32)) (aX12_compile 15 rfl) rfl ?_
  refine pw_putri (aX12_compile 16 rfl) uf_RX12_515 (fun _ _ _ => rfl) (fun t6 => ?_)
  refine pw_aloadn (aX12_compile 17 rfl) rfl ?_
  refine pw_iconst (v := (0 : Int32)) (aX12_compile 18 rfl) rfl ?_
  refine pw_putri (aX12_compile 19 rfl) uf_RX12_493 (fun _ _ _ => rfl) (fun t7 => ?_)
  exact pw_Li (L2 := [(0, .ref (base + 121))]) [0] (rX12_compile_34 hkb   n1 sl1 SH1 (h_up (h_up (h_up (h_up (h_up FI1 121 13 ((0 : Int32))) 121 68 ((0 : Int32))) 121 69 ((0 : Int32))) 121 78 ((0 : Int32))) 121 73 ((0 : Int32))) FL1 FR1 hok1  ) ⟨rfl, trivial⟩
def RX12_variable_167  (a1 : Int32) (a2 : Int32)  (n sl : Nat) (SH : Nat → Nat × Nat) (FI : Nat → Nat → Int32) (FL : Nat → Nat → Int64) (FR : Nat → Nat → Option Nat) : Int32 → hS → Prop := (P_if ((a2).toInt < ((100 : Int32)).toInt) (P_ret ((-1 : Int32)) (n, sl, SH, FI, FL, FR)) (P_if ((a2).toInt < ((1000 : Int32)).toInt) (P_and (p_in (((20 : Int32)) + (a1)) (SH 125).2) (P_if (((a2) - ((100 : Int32))).toInt < (FI 125 (((20 : Int32)) + (a1)).toInt.toNat).toInt) (P_and (p_in (((((12000 : Int32)) + (((600 : Int32)) * (a1))) + (a2)) - ((100 : Int32))) (SH 124).2) (P_ret (FI 124 (((((12000 : Int32)) + (((600 : Int32)) * (a1))) + (a2)) - ((100 : Int32))).toInt.toNat) (n, sl, SH, FI, FL, FR))) (P_ret ((-1 : Int32)) (n, sl, SH, FI, FL, FR)))) (P_ret ((-1 : Int32)) (n, sl, SH, FI, FL, FR))))
set_option maxHeartbeats 4000000 in
set_option maxRecDepth 100000 in
theorem rX12_variable_167 {sk : xK} {base N d : Nat}  (hkb : x_kb sk base) (a1 : Int32) (a2 : Int32)  (l3i : Int32) (l4l : Int64) (n sl : Nat) (SH : Nat → Nat × Nat) (FI : Nat → Nat → Int32) (FL : Nat → Nat → Int64) (FR : Nat → Nat → Option Nat) (hok : pk n SH FR)   : pw pj_I sk base N d none 251 167 [(0, .ref (base + 121)), (1, .int (a1)), (2, .int (a2)), (3, .int (l3i)), (4, .long (l4l))] [] (n, sl, SH, FI, FL, FR) (RX12_variable_167  a1 a2  n sl SH FI FL FR) := by
  unfold RX12_variable_167
  refine pw_iloadn (aX12_variable 97 rfl) rfl ?_
  refine pw_bipush (v := (100 : Int32)) (aX12_variable 98 rfl) rfl ?_
  refine pw_iclt (tgt := 216) (aX12_variable 99 rfl) (by decide) (fun b0 => ?_) (fun b0 => ?_)
  · skip
    refine pw_iconst (v := (-1 : Int32)) (aX12_variable 126 rfl) rfl ?_
    exact pw_iret (aX12_variable 127 rfl) hok
  · skip
    refine pw_iloadn (aX12_variable 100 rfl) rfl ?_
    refine pw_sipush (v := (1000 : Int32)) (aX12_variable 101 rfl) rfl ?_
    refine pw_icge (tgt := 216) (aX12_variable 102 rfl) (by decide) (fun b1 => ?_) (fun b1 => ?_)
    · skip
      refine pw_iloadn (aX12_variable 103 rfl) rfl ?_
      refine pw_bipush (v := (100 : Int32)) (aX12_variable 104 rfl) rfl ?_
      refine pw_isub (aX12_variable 105 rfl) ?_
      refine pw_aloadn (aX12_variable 106 rfl) rfl ?_
      refine pw_getr (v := .ref (base + 125)) (aX12_variable 107 rfl) uf_RX12_20 un_RX12_20 (congrArg (fun r => va_rf (h_rf base r)) (q121_4 (hok).2.1)) ?_
      refine pw_bipush (v := (20 : Int32)) (aX12_variable 108 rfl) rfl ?_
      refine pw_iloadn (aX12_variable 109 rfl) rfl ?_
      refine pw_iadd (aX12_variable 110 rfl) ?_
      refine pw_ialdr (c := 125) (ix := (((20 : Int32)) + (a1)).toInt.toNat) (aX12_variable 111 rfl) rfl (fun _ => ?_)
      refine pw_icge (tgt := 216) (aX12_variable 112 rfl) (by decide) (fun b2 => ?_) (fun b2 => ?_)
      · skip
        refine pw_aloadn (aX12_variable 113 rfl) rfl ?_
        refine pw_getr (v := .ref (base + 124)) (aX12_variable 114 rfl) uf_RX12_17 un_RX12_17 (congrArg (fun r => va_rf (h_rf base r)) (q121_3 (hok).2.1)) ?_
        refine pw_sipush (v := (12000 : Int32)) (aX12_variable 115 rfl) rfl ?_
        refine pw_sipush (v := (600 : Int32)) (aX12_variable 116 rfl) rfl ?_
        refine pw_iloadn (aX12_variable 117 rfl) rfl ?_
        refine pw_imul (aX12_variable 118 rfl) ?_
        refine pw_iadd (aX12_variable 119 rfl) ?_
        refine pw_iloadn (aX12_variable 120 rfl) rfl ?_
        refine pw_iadd (aX12_variable 121 rfl) ?_
        refine pw_bipush (v := (100 : Int32)) (aX12_variable 122 rfl) rfl ?_
        refine pw_isub (aX12_variable 123 rfl) ?_
        refine pw_ialdr (c := 124) (ix := (((((12000 : Int32)) + (((600 : Int32)) * (a1))) + (a2)) - ((100 : Int32))).toInt.toNat) (aX12_variable 124 rfl) rfl (fun _ => ?_)
        exact pw_iret (aX12_variable 125 rfl) hok
      · skip
        refine pw_iconst (v := (-1 : Int32)) (aX12_variable 126 rfl) rfl ?_
        exact pw_iret (aX12_variable 127 rfl) hok
    · skip
      refine pw_iconst (v := (-1 : Int32)) (aX12_variable 126 rfl) rfl ?_
      exact pw_iret (aX12_variable 127 rfl) hok
def BX12_variable_115 (K115 : Int32 → Int64 → Int32 → Nat → Nat → (Nat → Nat × Nat) → (Nat → Nat → Int32) → (Nat → Nat → Int64) → (Nat → Nat → Option Nat) → Int32 → hS → Prop) (a1 : Int32) (a2 : Int32) (l3i : Int32) (l4l : Int64) (l6i : Int32) (n sl : Nat) (SH : Nat → Nat × Nat) (FI : Nat → Nat → Int32) (FL : Nat → Nat → Int64) (FR : Nat → Nat → Option Nat) : Int32 → hS → Prop := (P_if ((l6i).toInt < ((l3i) - ((1 : Int32))).toInt) (P_and (¬ ((37 : Int64)) = 0) (K115 (l3i) ((l4l) / ((37 : Int64))) ((l6i) + (1 : Int32)) n sl SH FI FL FR)) (P_and (¬ ((37 : Int64)) = 0) (P_if (((26 : Int32)).toInt < (((l4l) - (l4l) / ((37 : Int64)) * ((37 : Int64))).toInt32).toInt) (P_ret ((((l4l) - (l4l) / ((37 : Int64)) * ((37 : Int64))).toInt32) + ((21 : Int32))) (n, sl, SH, FI, FL, FR)) (P_ret ((((l4l) - (l4l) / ((37 : Int64)) * ((37 : Int64))).toInt32) + ((96 : Int32))) (n, sl, SH, FI, FL, FR)))))
set_option maxHeartbeats 4000000 in
set_option maxRecDepth 100000 in
theorem bX12_variable_115 {sk : xK} {base N d : Nat} {K115 : Int32 → Int64 → Int32 → Nat → Nat → (Nat → Nat × Nat) → (Nat → Nat → Int32) → (Nat → Nat → Int64) → (Nat → Nat → Option Nat) → Int32 → hS → Prop} (hkb : x_kb sk base) (a1 : Int32) (a2 : Int32) (l3i : Int32) (l4l : Int64) (l6i : Int32)  (n sl : Nat) (SH : Nat → Nat × Nat) (FI : Nat → Nat → Int32) (FL : Nat → Nat → Int64) (FR : Nat → Nat → Option Nat) (hok : pk n SH FR)  (hK115 : ∀ (l3i : Int32) (l4l : Int64) (l6i : Int32) (n sl : Nat) (SH : Nat → Nat × Nat) (FI : Nat → Nat → Int32) (FL : Nat → Nat → Int64) (FR : Nat → Nat → Option Nat), pk n SH FR → pw pj_I sk base N d none 251 115 [(0, .ref (base + 121)), (1, .int (a1)), (2, .int (a2)), (3, .int (l3i)), (4, .long (l4l)), (6, .int (l6i))] [] (n, sl, SH, FI, FL, FR) (K115 l3i l4l l6i n sl SH FI FL FR)) : pw pj_I sk base (N + 1) d none 251 115 [(0, .ref (base + 121)), (1, .int (a1)), (2, .int (a2)), (3, .int (l3i)), (4, .long (l4l)), (6, .int (l6i))] [] (n, sl, SH, FI, FL, FR) (BX12_variable_115 K115 a1 a2 l3i l4l l6i n sl SH FI FL FR) := by
  unfold BX12_variable_115
  refine pd_iload (aX12_variable 70 rfl) rfl ?_
  refine pw_iloadn (aX12_variable 71 rfl) rfl ?_
  refine pw_iconst (v := (1 : Int32)) (aX12_variable 72 rfl) rfl ?_
  refine pw_isub (aX12_variable 73 rfl) ?_
  refine pw_icge (tgt := 137) (aX12_variable 74 rfl) (by decide) (fun b0 => ?_) (fun b0 => ?_)
  · skip
    refine pw_lload (aX12_variable 75 rfl) rfl ?_
    refine pw_ldc2 (v := (37 : Int64)) (aX12_variable 76 rfl) uk_RX12_455 ?_
    refine pw_ldiv (aX12_variable 77 rfl) (fun _ => ?_)
    refine pw_lstore (L2 := [(4, .long ((l4l) / ((37 : Int64)))), (0, .ref (base + 121)), (1, .int (a1)), (2, .int (a2)), (3, .int (l3i)), (6, .int (l6i))]) (aX12_variable 78 rfl) rfl ?_
    refine pw_iinc (v := (l6i) + (1 : Int32)) (L2 := [(6, .int ((l6i) + (1 : Int32))), (4, .long ((l4l) / ((37 : Int64)))), (0, .ref (base + 121)), (1, .int (a1)), (2, .int (a2)), (3, .int (l3i))]) (aX12_variable 79 rfl) rfl rfl rfl ?_
    refine pw_goto (tgt := 115) (aX12_variable 80 rfl) (by decide) ?_
    exact pw_Li (L2 := [(0, .ref (base + 121)), (1, .int (a1)), (2, .int (a2)), (3, .int (l3i)), (4, .long ((l4l) / ((37 : Int64)))), (6, .int ((l6i) + (1 : Int32)))]) [5, 4, 0, 1, 2, 3] (hK115 (l3i) ((l4l) / ((37 : Int64))) ((l6i) + (1 : Int32)) n sl SH FI FL FR hok) ⟨rfl, rfl, rfl, rfl, rfl, rfl, trivial⟩
  · skip
    refine pw_lload (aX12_variable 81 rfl) rfl ?_
    refine pw_ldc2 (v := (37 : Int64)) (aX12_variable 82 rfl) uk_RX12_455 ?_
    refine pw_lrem (aX12_variable 83 rfl) (fun _ => ?_)
    refine pw_l2i (aX12_variable 84 rfl) ?_
    refine pw_istore (L2 := [(6, .int (((l4l) - (l4l) / ((37 : Int64)) * ((37 : Int64))).toInt32)), (0, .ref (base + 121)), (1, .int (a1)), (2, .int (a2)), (3, .int (l3i)), (4, .long (l4l))]) (aX12_variable 85 rfl) rfl ?_
    refine pw_iload (aX12_variable 86 rfl) rfl ?_
    refine pw_bipush (v := (26 : Int32)) (aX12_variable 87 rfl) rfl ?_
    refine pw_icgt (tgt := 161) (aX12_variable 88 rfl) (by decide) (fun b1 => ?_) (fun b1 => ?_)
    · skip
      refine pw_iload (aX12_variable 93 rfl) rfl ?_
      refine pw_bipush (v := (21 : Int32)) (aX12_variable 94 rfl) rfl ?_
      refine pw_iadd (aX12_variable 95 rfl) ?_
      exact pw_iret (aX12_variable 96 rfl) hok
    · skip
      refine pw_iload (aX12_variable 89 rfl) rfl ?_
      refine pw_bipush (v := (96 : Int32)) (aX12_variable 90 rfl) rfl ?_
      refine pw_iadd (aX12_variable 91 rfl) ?_
      refine pw_goto (tgt := 166) (aX12_variable 92 rfl) (by decide) ?_
      exact pw_iret (aX12_variable 96 rfl) hok
def GX12_variable_115  (a1 : Int32) (a2 : Int32) : Nat → Int32 → Int64 → Int32 → Nat → Nat → (Nat → Nat × Nat) → (Nat → Nat → Int32) → (Nat → Nat → Int64) → (Nat → Nat → Option Nat) → Int32 → hS → Prop
  | 0, _, _, _, _, _, _, _, _, _ => fun _ _ => False
  | g + 1, l3i, l4l, l6i, n, sl, SH, FI, FL, FR => BX12_variable_115  (GX12_variable_115  a1 a2 g) a1 a2 l3i l4l l6i n sl SH FI FL FR
def RX12_variable_115  (a1 : Int32) (a2 : Int32) (l3i : Int32) (l4l : Int64) (l6i : Int32) (n sl : Nat) (SH : Nat → Nat × Nat) (FI : Nat → Nat → Int32) (FL : Nat → Nat → Int64) (FR : Nat → Nat → Option Nat) : Int32 → hS → Prop := fun v s => ∃ g, GX12_variable_115  a1 a2 g l3i l4l l6i n sl SH FI FL FR v s
theorem gX12_variable_115 {sk : xK} {base d : Nat}  (hkb : x_kb sk base) (a1 : Int32) (a2 : Int32) (N : Nat) :  ∀ (l3i : Int32) (l4l : Int64) (l6i : Int32)  (n sl : Nat) (SH : Nat → Nat × Nat) (FI : Nat → Nat → Int32) (FL : Nat → Nat → Int64) (FR : Nat → Nat → Option Nat), pk n SH FR → pw pj_I sk base N d none 251 115 [(0, .ref (base + 121)), (1, .int (a1)), (2, .int (a2)), (3, .int (l3i)), (4, .long (l4l)), (6, .int (l6i))] [] (n, sl, SH, FI, FL, FR) (GX12_variable_115  a1 a2 (N + 1) l3i l4l l6i n sl SH FI FL FR) := by
  induction N with
  | zero => intros; exact pw_0
  | succ N ih => intro   l3i l4l l6i  n sl SH FI FL FR hok; exact bX12_variable_115 hkb a1 a2 l3i l4l l6i  n sl SH FI FL FR hok  (ih  )
theorem rX12_variable_115 {sk : xK} {base N d : Nat}  (hkb : x_kb sk base) (a1 : Int32) (a2 : Int32) (l3i : Int32) (l4l : Int64) (l6i : Int32)  (n sl : Nat) (SH : Nat → Nat × Nat) (FI : Nat → Nat → Int32) (FL : Nat → Nat → Int64) (FR : Nat → Nat → Option Nat) (hok : pk n SH FR)   : pw pj_I sk base N d none 251 115 [(0, .ref (base + 121)), (1, .int (a1)), (2, .int (a2)), (3, .int (l3i)), (4, .long (l4l)), (6, .int (l6i))] [] (n, sl, SH, FI, FL, FR) (RX12_variable_115  a1 a2 l3i l4l l6i n sl SH FI FL FR) := pw_cons (gX12_variable_115 hkb a1 a2 N   l3i l4l l6i  n sl SH FI FL FR hok) (fun _ _ h => ⟨_, h⟩)
def BX12_variable_29 (K29 : Int32 → Int64 → Nat → Nat → (Nat → Nat × Nat) → (Nat → Nat → Int32) → (Nat → Nat → Int64) → (Nat → Nat → Option Nat) → Int32 → hS → Prop) (a1 : Int32) (a2 : Int32) (l3i : Int32) (l4l : Int64) (n sl : Nat) (SH : Nat → Nat × Nat) (FI : Nat → Nat → Int32) (FL : Nat → Nat → Int64) (FR : Nat → Nat → Option Nat) : Int32 → hS → Prop := (P_if (((0 : Int64)).toInt < (l4l).toInt) (P_and (¬ ((37 : Int64)) = 0) (K29 ((l3i) + ((1 : Int32))) ((l4l) / ((37 : Int64))) n sl SH FI FL FR)) (P_if ((a2).toInt = 0) (P_and (p_in (a1) (SH 156).2) (P_ret (FI 156 (a1).toInt.toNat) (n, sl, SH, FI, FL, FR))) (P_if ((a2).toInt = ((1 : Int32)).toInt) (P_and (p_in (((20 : Int32)) + (a1)) (SH 125).2) (P_ret (FI 125 (((20 : Int32)) + (a1)).toInt.toNat) (n, sl, SH, FI, FL, FR))) (P_if ((a2).toInt = ((2 : Int32)).toInt) (P_ret (l3i) (n, sl, SH, FI, FL, FR)) (P_if ((a2).toInt < ((1000 : Int32)).toInt) (RX12_variable_167  a1 a2  n sl SH FI FL FR) (P_if (((a2) - ((1000 : Int32))).toInt < (l3i).toInt) (P_and (p_in (a1) (SH 155).2) (RX12_variable_115  a1 a2 (l3i) (FL 155 (a1).toInt.toNat) ((a2) - ((1000 : Int32))) n sl SH FI FL FR)) (RX12_variable_167  a1 a2  n sl SH FI FL FR)))))))
set_option maxHeartbeats 4000000 in
set_option maxRecDepth 100000 in
theorem bX12_variable_29 {sk : xK} {base N d : Nat} {K29 : Int32 → Int64 → Nat → Nat → (Nat → Nat × Nat) → (Nat → Nat → Int32) → (Nat → Nat → Int64) → (Nat → Nat → Option Nat) → Int32 → hS → Prop} (hkb : x_kb sk base) (a1 : Int32) (a2 : Int32) (l3i : Int32) (l4l : Int64)  (n sl : Nat) (SH : Nat → Nat × Nat) (FI : Nat → Nat → Int32) (FL : Nat → Nat → Int64) (FR : Nat → Nat → Option Nat) (hok : pk n SH FR)  (hK29 : ∀ (l3i : Int32) (l4l : Int64) (n sl : Nat) (SH : Nat → Nat × Nat) (FI : Nat → Nat → Int32) (FL : Nat → Nat → Int64) (FR : Nat → Nat → Option Nat), pk n SH FR → pw pj_I sk base N d none 251 29 [(0, .ref (base + 121)), (1, .int (a1)), (2, .int (a2)), (3, .int (l3i)), (4, .long (l4l))] [] (n, sl, SH, FI, FL, FR) (K29 l3i l4l n sl SH FI FL FR)) : pw pj_I sk base (N + 1) d none 251 29 [(0, .ref (base + 121)), (1, .int (a1)), (2, .int (a2)), (3, .int (l3i)), (4, .long (l4l))] [] (n, sl, SH, FI, FL, FR) (BX12_variable_29 K29 a1 a2 l3i l4l n sl SH FI FL FR) := by
  unfold BX12_variable_29
  refine pd_lload (aX12_variable 18 rfl) rfl ?_
  refine pw_lconst (v := (0 : Int64)) (aX12_variable 19 rfl) rfl ?_
  refine pw_lcle (tgt := 51) (aX12_variable 20 rfl) (aX12_variable 21 rfl) (by decide) (fun b0 => ?_) (fun b0 => ?_)
  · skip
    refine pw_iloadn (aX12_variable 22 rfl) rfl ?_
    refine pw_iconst (v := (1 : Int32)) (aX12_variable 23 rfl) rfl ?_
    refine pw_iadd (aX12_variable 24 rfl) ?_
    refine pw_istoren (L2 := [(3, .int ((l3i) + ((1 : Int32)))), (0, .ref (base + 121)), (1, .int (a1)), (2, .int (a2)), (4, .long (l4l))]) (aX12_variable 25 rfl) rfl ?_
    refine pw_lload (aX12_variable 26 rfl) rfl ?_
    refine pw_ldc2 (v := (37 : Int64)) (aX12_variable 27 rfl) uk_RX12_455 ?_
    refine pw_ldiv (aX12_variable 28 rfl) (fun _ => ?_)
    refine pw_lstore (L2 := [(4, .long ((l4l) / ((37 : Int64)))), (3, .int ((l3i) + ((1 : Int32)))), (0, .ref (base + 121)), (1, .int (a1)), (2, .int (a2))]) (aX12_variable 29 rfl) rfl ?_
    refine pw_goto (tgt := 29) (aX12_variable 30 rfl) (by decide) ?_
    exact pw_Li (L2 := [(0, .ref (base + 121)), (1, .int (a1)), (2, .int (a2)), (3, .int ((l3i) + ((1 : Int32)))), (4, .long ((l4l) / ((37 : Int64))))]) [4, 3, 0, 1, 2] (hK29 ((l3i) + ((1 : Int32))) ((l4l) / ((37 : Int64))) n sl SH FI FL FR hok) ⟨rfl, rfl, rfl, rfl, rfl, trivial⟩
  · skip
    refine pw_iloadn (aX12_variable 31 rfl) rfl ?_
    refine pw_ifne (tgt := 62) (aX12_variable 32 rfl) (by decide) (fun b1 => ?_) (fun b1 => ?_)
    · skip
      refine pw_aloadn (aX12_variable 33 rfl) rfl ?_
      refine pw_getr (v := .ref (base + 156)) (aX12_variable 34 rfl) uf_RX12_126 un_RX12_126 (congrArg (fun r => va_rf (h_rf base r)) (q121_76 (hok).2.1)) ?_
      refine pw_iloadn (aX12_variable 35 rfl) rfl ?_
      refine pw_ialdr (c := 156) (ix := (a1).toInt.toNat) (aX12_variable 36 rfl) rfl (fun _ => ?_)
      exact pw_iret (aX12_variable 37 rfl) hok
    · skip
      refine pw_iloadn (aX12_variable 38 rfl) rfl ?_
      refine pw_iconst (v := (1 : Int32)) (aX12_variable 39 rfl) rfl ?_
      refine pw_icne (tgt := 77) (aX12_variable 40 rfl) (by decide) (fun b2 => ?_) (fun b2 => ?_)
      · skip
        refine pw_aloadn (aX12_variable 41 rfl) rfl ?_
        refine pw_getr (v := .ref (base + 125)) (aX12_variable 42 rfl) uf_RX12_20 un_RX12_20 (congrArg (fun r => va_rf (h_rf base r)) (q121_4 (hok).2.1)) ?_
        refine pw_bipush (v := (20 : Int32)) (aX12_variable 43 rfl) rfl ?_
        refine pw_iloadn (aX12_variable 44 rfl) rfl ?_
        refine pw_iadd (aX12_variable 45 rfl) ?_
        refine pw_ialdr (c := 125) (ix := (((20 : Int32)) + (a1)).toInt.toNat) (aX12_variable 46 rfl) rfl (fun _ => ?_)
        exact pw_iret (aX12_variable 47 rfl) hok
      · skip
        refine pw_iloadn (aX12_variable 48 rfl) rfl ?_
        refine pw_iconst (v := (2 : Int32)) (aX12_variable 49 rfl) rfl ?_
        refine pw_icne (tgt := 84) (aX12_variable 50 rfl) (by decide) (fun b3 => ?_) (fun b3 => ?_)
        · skip
          refine pw_iloadn (aX12_variable 51 rfl) rfl ?_
          exact pw_iret (aX12_variable 52 rfl) hok
        · skip
          refine pw_iloadn (aX12_variable 53 rfl) rfl ?_
          refine pw_sipush (v := (1000 : Int32)) (aX12_variable 54 rfl) rfl ?_
          refine pw_iclt (tgt := 167) (aX12_variable 55 rfl) (by decide) (fun b4 => ?_) (fun b4 => ?_)
          · skip
            exact pw_Li (L2 := [(0, .ref (base + 121)), (1, .int (a1)), (2, .int (a2)), (3, .int (l3i)), (4, .long (l4l))]) [0, 1, 2, 3, 4] (rX12_variable_167 hkb a1 a2 (l3i) (l4l) n sl SH FI FL FR hok  ) ⟨rfl, rfl, rfl, rfl, rfl, trivial⟩
          · skip
            refine pw_iloadn (aX12_variable 56 rfl) rfl ?_
            refine pw_sipush (v := (1000 : Int32)) (aX12_variable 57 rfl) rfl ?_
            refine pw_isub (aX12_variable 58 rfl) ?_
            refine pw_iloadn (aX12_variable 59 rfl) rfl ?_
            refine pw_icge (tgt := 167) (aX12_variable 60 rfl) (by decide) (fun b5 => ?_) (fun b5 => ?_)
            · skip
              refine pw_aloadn (aX12_variable 61 rfl) rfl ?_
              refine pw_getr (v := .ref (base + 155)) (aX12_variable 62 rfl) uf_RX12_123 un_RX12_123 (congrArg (fun r => va_rf (h_rf base r)) (q121_75 (hok).2.1)) ?_
              refine pw_iloadn (aX12_variable 63 rfl) rfl ?_
              refine pw_laldr (c := 155) (ix := (a1).toInt.toNat) (aX12_variable 64 rfl) rfl (fun _ => ?_)
              refine pw_lstore (L2 := [(4, .long (FL 155 (a1).toInt.toNat)), (0, .ref (base + 121)), (1, .int (a1)), (2, .int (a2)), (3, .int (l3i))]) (aX12_variable 65 rfl) rfl ?_
              refine pw_iloadn (aX12_variable 66 rfl) rfl ?_
              refine pw_sipush (v := (1000 : Int32)) (aX12_variable 67 rfl) rfl ?_
              refine pw_isub (aX12_variable 68 rfl) ?_
              refine pw_istore (L2 := [(6, .int ((a2) - ((1000 : Int32)))), (4, .long (FL 155 (a1).toInt.toNat)), (0, .ref (base + 121)), (1, .int (a1)), (2, .int (a2)), (3, .int (l3i))]) (aX12_variable 69 rfl) rfl ?_
              exact pw_Li (L2 := [(0, .ref (base + 121)), (1, .int (a1)), (2, .int (a2)), (3, .int (l3i)), (4, .long (FL 155 (a1).toInt.toNat)), (6, .int ((a2) - ((1000 : Int32))))]) [5, 4, 0, 1, 2, 3] (rX12_variable_115 hkb a1 a2 (l3i) (FL 155 (a1).toInt.toNat) ((a2) - ((1000 : Int32))) n sl SH FI FL FR hok  ) ⟨rfl, rfl, rfl, rfl, rfl, rfl, trivial⟩
            · skip
              exact pw_Li (L2 := [(0, .ref (base + 121)), (1, .int (a1)), (2, .int (a2)), (3, .int (l3i)), (4, .long (l4l))]) [0, 1, 2, 3, 4] (rX12_variable_167 hkb a1 a2 (l3i) (l4l) n sl SH FI FL FR hok  ) ⟨rfl, rfl, rfl, rfl, rfl, trivial⟩
def GX12_variable_29  (a1 : Int32) (a2 : Int32) : Nat → Int32 → Int64 → Nat → Nat → (Nat → Nat × Nat) → (Nat → Nat → Int32) → (Nat → Nat → Int64) → (Nat → Nat → Option Nat) → Int32 → hS → Prop
  | 0, _, _, _, _, _, _, _, _ => fun _ _ => False
  | g + 1, l3i, l4l, n, sl, SH, FI, FL, FR => BX12_variable_29  (GX12_variable_29  a1 a2 g) a1 a2 l3i l4l n sl SH FI FL FR
def RX12_variable_29  (a1 : Int32) (a2 : Int32) (l3i : Int32) (l4l : Int64) (n sl : Nat) (SH : Nat → Nat × Nat) (FI : Nat → Nat → Int32) (FL : Nat → Nat → Int64) (FR : Nat → Nat → Option Nat) : Int32 → hS → Prop := fun v s => ∃ g, GX12_variable_29  a1 a2 g l3i l4l n sl SH FI FL FR v s
theorem gX12_variable_29 {sk : xK} {base d : Nat}  (hkb : x_kb sk base) (a1 : Int32) (a2 : Int32) (N : Nat) :  ∀ (l3i : Int32) (l4l : Int64)  (n sl : Nat) (SH : Nat → Nat × Nat) (FI : Nat → Nat → Int32) (FL : Nat → Nat → Int64) (FR : Nat → Nat → Option Nat), pk n SH FR → pw pj_I sk base N d none 251 29 [(0, .ref (base + 121)), (1, .int (a1)), (2, .int (a2)), (3, .int (l3i)), (4, .long (l4l))] [] (n, sl, SH, FI, FL, FR) (GX12_variable_29  a1 a2 (N + 1) l3i l4l n sl SH FI FL FR) := by
  induction N with
  | zero => intros; exact pw_0
  | succ N ih => intro   l3i l4l  n sl SH FI FL FR hok; exact bX12_variable_29 hkb a1 a2 l3i l4l  n sl SH FI FL FR hok  (ih  )
theorem rX12_variable_29 {sk : xK} {base N d : Nat}  (hkb : x_kb sk base) (a1 : Int32) (a2 : Int32) (l3i : Int32) (l4l : Int64)  (n sl : Nat) (SH : Nat → Nat × Nat) (FI : Nat → Nat → Int32) (FL : Nat → Nat → Int64) (FR : Nat → Nat → Option Nat) (hok : pk n SH FR)   : pw pj_I sk base N d none 251 29 [(0, .ref (base + 121)), (1, .int (a1)), (2, .int (a2)), (3, .int (l3i)), (4, .long (l4l))] [] (n, sl, SH, FI, FL, FR) (RX12_variable_29  a1 a2 l3i l4l n sl SH FI FL FR) := pw_cons (gX12_variable_29 hkb a1 a2 N   l3i l4l  n sl SH FI FL FR hok) (fun _ _ h => ⟨_, h⟩)
def RX12_variable (a1 : Int32) (a2 : Int32) (n sl : Nat) (SH : Nat → Nat × Nat) (FI : Nat → Nat → Int32) (FL : Nat → Nat → Int64) (FR : Nat → Nat → Option Nat) : Int32 → hS → Prop := (P_if ((a1).toInt < 0) (P_ret ((-1 : Int32)) (n, sl, SH, (h_up FI 121 0 ((0 : Int32))), FL, FR)) (P_if ((a1).toInt < (FI 121 74).toInt) (P_and (p_in (a1) (SH 155).2) (RX12_variable_29  a1 a2 ((0 : Int32)) (FL 155 (a1).toInt.toNat) n sl SH (h_up FI 121 0 ((0 : Int32))) FL FR)) (P_ret ((-1 : Int32)) (n, sl, SH, (h_up FI 121 0 ((0 : Int32))), FL, FR))))
set_option maxHeartbeats 4000000 in
set_option maxRecDepth 100000 in
theorem rX12_variable {sk : xK} {base N d : Nat} (hkb : x_kb sk base) (a1 : Int32) (a2 : Int32) (n sl : Nat) (SH : Nat → Nat × Nat) (FI : Nat → Nat → Int32) (FL : Nat → Nat → Int64) (FR : Nat → Nat → Option Nat) (hok : pk n SH FR)  : pw pj_I sk base N d none 251 0 [(0, .ref (base + 121)), (1, .int (a1)), (2, .int (a2))] [] (n, sl, SH, FI, FL, FR) (RX12_variable a1 a2 n sl SH FI FL FR) := by
  unfold RX12_variable
  refine pw_aloadn (aX12_variable 0 rfl) rfl ?_
  refine pw_iconst (v := (0 : Int32)) (aX12_variable 1 rfl) rfl ?_
  refine pw_putri (aX12_variable 2 rfl) uf_RX12_187 (fun _ _ _ => rfl) (fun t1 => ?_)
  refine pw_iloadn (aX12_variable 3 rfl) rfl ?_
  refine pw_iflt (tgt := 17) (aX12_variable 4 rfl) (by decide) (fun b1 => ?_) (fun b1 => ?_)
  · skip
    refine pw_iconst (v := (-1 : Int32)) (aX12_variable 9 rfl) rfl ?_
    exact pw_iret (aX12_variable 10 rfl) hok
  · skip
    refine pw_iloadn (aX12_variable 5 rfl) rfl ?_
    refine pw_aloadn (aX12_variable 6 rfl) rfl ?_
    refine pw_getr (v := .int (FI 121 74)) (aX12_variable 7 rfl) uf_RX12_524 un_RX12_524 rfl ?_
    refine pw_iclt (tgt := 19) (aX12_variable 8 rfl) (by decide) (fun b2 => ?_) (fun b2 => ?_)
    · skip
      refine pw_iconst (v := (0 : Int32)) (aX12_variable 11 rfl) rfl ?_
      refine pw_istoren (L2 := [(3, .int ((0 : Int32))), (0, .ref (base + 121)), (1, .int (a1)), (2, .int (a2))]) (aX12_variable 12 rfl) rfl ?_
      refine pw_aloadn (aX12_variable 13 rfl) rfl ?_
      refine pw_getr (v := .ref (base + 155)) (aX12_variable 14 rfl) uf_RX12_123 un_RX12_123 (congrArg (fun r => va_rf (h_rf base r)) (q121_75 (hok).2.1)) ?_
      refine pw_iloadn (aX12_variable 15 rfl) rfl ?_
      refine pw_laldr (c := 155) (ix := (a1).toInt.toNat) (aX12_variable 16 rfl) rfl (fun _ => ?_)
      refine pw_lstore (L2 := [(4, .long (FL 155 (a1).toInt.toNat)), (3, .int ((0 : Int32))), (0, .ref (base + 121)), (1, .int (a1)), (2, .int (a2))]) (aX12_variable 17 rfl) rfl ?_
      exact pw_Li (L2 := [(0, .ref (base + 121)), (1, .int (a1)), (2, .int (a2)), (3, .int ((0 : Int32))), (4, .long (FL 155 (a1).toInt.toNat))]) [4, 3, 0, 1, 2] (rX12_variable_29 hkb a1 a2 ((0 : Int32)) (FL 155 (a1).toInt.toNat) n sl SH (h_up FI 121 0 ((0 : Int32))) FL FR hok  ) ⟨rfl, rfl, rfl, rfl, rfl, trivial⟩
    · skip
      refine pw_iconst (v := (-1 : Int32)) (aX12_variable 9 rfl) rfl ?_
      exact pw_iret (aX12_variable 10 rfl) hok
