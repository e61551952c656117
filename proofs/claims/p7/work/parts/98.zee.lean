section
def RX4_take  (n sl : Nat) (SH : Nat → Nat × Nat) (FI : Nat → Nat → Int32) (FL : Nat → Nat → Int64) (FR : Nat → Nat → Option Nat) : Unit → hS → Prop := (P_if ((FI 110 5).toInt = 0) (P_if (((FI 110 7) + ((1 : Int32))).toInt < (FI 111 4).toInt) (P_and (p_in ((FI 110 7) + ((1 : Int32))) (SH 112).2) (P_and (p_in ((FI 110 7) + ((1 : Int32))) (SH 113).2) (P_ret () (n, sl, SH, (h_up (h_up FI 110 7 ((FI 110 7) + ((1 : Int32)))) 110 8 (FI 112 ((FI 110 7) + ((1 : Int32))).toInt.toNat)), (h_up FL 110 9 (FL 113 ((FI 110 7) + ((1 : Int32))).toInt.toNat)), FR)))) (P_ret () (n, sl, SH, FI, FL, FR))) (P_ret () (n, sl, SH, FI, FL, FR)))
def RX4_refuse (a1 : Int32) (n sl : Nat) (SH : Nat → Nat × Nat) (FI : Nat → Nat → Int32) (FL : Nat → Nat → Int64) (FR : Nat → Nat → Option Nat) : Unit → hS → Prop := (P_if ((FI 110 5).toInt = 0) (P_if ((FI 110 7).toInt < 0) (P_ret () (n, sl, SH, FI, FL, FR)) (P_if ((FI 110 7).toInt < (FI 111 4).toInt) (P_and (p_in (FI 110 7) (SH 114).2) (P_ret () (n, sl, SH, (h_up (h_up (h_up FI 110 5 (a1)) 110 6 (FI 114 (FI 110 7).toInt.toNat)) 110 8 ((1 : Int32))), FL, FR))) (P_ret () (n, sl, SH, FI, FL, FR)))) (P_ret () (n, sl, SH, FI, FL, FR)))
def RX4_expect (a1 : Int32) (n sl : Nat) (SH : Nat → Nat × Nat) (FI : Nat → Nat → Int32) (FL : Nat → Nat → Int64) (FR : Nat → Nat → Option Nat) : Unit → hS → Prop := (P_if ((FI 110 8).toInt = (a1).toInt) (P_bi (RX4_take  n sl SH FI FL FR) (fun v1 n1 sl1 SH1 FI1 FL1 FR1 => (P_ret () (n1, sl1, SH1, FI1, FL1, FR1)))) (P_bi (RX4_refuse ((1 : Int32)) n sl SH FI FL FR) (fun v2 n2 sl2 SH2 FI2 FL2 FR2 => (P_ret () (n2, sl2, SH2, FI2, FL2, FR2)))))
def RX4_raise  (n sl : Nat) (SH : Nat → Nat × Nat) (FI : Nat → Nat → Int32) (FL : Nat → Nat → Int64) (FR : Nat → Nat → Option Nat) : Int32 → hS → Prop := (P_if ((FI 110 4).toInt < ((12 : Int32)).toInt) (P_ret ((1 : Int32)) (n, sl, SH, (h_up FI 110 4 ((FI 110 4) + ((1 : Int32)))), FL, FR)) (P_bi (RX4_refuse ((5 : Int32)) n sl SH FI FL FR) (fun v2 n2 sl2 SH2 FI2 FL2 FR2 => (P_ret ((0 : Int32)) (n2, sl2, SH2, FI2, FL2, FR2)))))
def fX4_goesOn  (SH : Nat → Nat × Nat) (FI : Nat → Nat → Int32) (FL : Nat → Nat → Int64) (FR : Nat → Nat → Option Nat) : Int32 := (if (FI 110 5).toInt = 0 then (if (FI 110 8).toInt = ((2 : Int32)).toInt then ((0 : Int32)) else ((1 : Int32))) else ((0 : Int32)))
def fX4_levelOf (a1 : Int32) (SH : Nat → Nat × Nat) (FI : Nat → Nat → Int32) (FL : Nat → Nat → Int64) (FR : Nat → Nat → Option Nat) : Int32 := (if (a1).toInt = 15 ∨ (a1).toInt = 16 ∨ (a1).toInt = 42 then ((6 : Int32)) else (if (a1).toInt = 18 ∨ (a1).toInt = 19 ∨ (a1).toInt = 20 ∨ (a1).toInt = 21 ∨ (a1).toInt = 60 ∨ (a1).toInt = 62 then ((3 : Int32)) else (if (a1).toInt = 22 ∨ (a1).toInt = 23 ∨ (a1).toInt = 24 then ((4 : Int32)) else (if (a1).toInt = 38 then ((2 : Int32)) else (if (a1).toInt = 43 ∨ (a1).toInt = 45 then ((5 : Int32)) else (if (a1).toInt = 94 then ((1 : Int32)) else (if (a1).toInt = 124 then ((0 : Int32)) else ((-1 : Int32)))))))))
def fX4_beginsPlace (a1 : Int32) (SH : Nat → Nat × Nat) (FI : Nat → Nat → Int32) (FL : Nat → Nat → Int64) (FR : Nat → Nat → Option Nat) : Int32 := (if (a1).toInt = ((7 : Int32)).toInt then ((1 : Int32)) else (if (a1).toInt = ((91 : Int32)).toInt then ((1 : Int32)) else (if (a1).toInt = ((8 : Int32)).toInt then ((1 : Int32)) else (if (a1).toInt = ((9 : Int32)).toInt then ((1 : Int32)) else (if (a1).toInt = ((10 : Int32)).toInt then ((1 : Int32)) else ((0 : Int32)))))))
def RX4_refuseHighRegister  (n sl : Nat) (SH : Nat → Nat × Nat) (FI : Nat → Nat → Int32) (FL : Nat → Nat → Int64) (FR : Nat → Nat → Option Nat) : Int64 → hS → Prop := (P_if ((FI 110 8).toInt = ((5 : Int32)).toInt) (P_if ((FL 110 9).toInt < ((32 : Int64)).toInt) (P_ret (FL 110 9) (n, sl, SH, FI, FL, FR)) (P_bi (RX4_refuse ((2 : Int32)) n sl SH FI FL FR) (fun v2 n2 sl2 SH2 FI2 FL2 FR2 => (P_ret (FL2 110 9) (n2, sl2, SH2, FI2, FL2, FR2))))) (P_ret (FL 110 9) (n, sl, SH, FI, FL, FR)))
def fX4_operationOf (a1 : Int32) (SH : Nat → Nat × Nat) (FI : Nat → Nat → Int32) (FL : Nat → Nat → Int64) (FR : Nat → Nat → Option Nat) : Int32 := (if (a1).toInt = 15 then ((27 : Int32)) else (if (a1).toInt = 18 then ((41 : Int32)) else (if (a1).toInt = 19 then ((46 : Int32)) else (if (a1).toInt = 20 then ((44 : Int32)) else (if (a1).toInt = 21 then ((42 : Int32)) else (if (a1).toInt = 22 then ((36 : Int32)) else (if (a1).toInt = 23 then ((38 : Int32)) else (if (a1).toInt = 24 then ((37 : Int32)) else (if (a1).toInt = 38 then ((26 : Int32)) else (if (a1).toInt = 42 then ((30 : Int32)) else (if (a1).toInt = 43 then ((34 : Int32)) else (if (a1).toInt = 45 then ((28 : Int32)) else (if (a1).toInt = 60 then ((45 : Int32)) else (if (a1).toInt = 62 then ((43 : Int32)) else (if (a1).toInt = 94 then ((39 : Int32)) else (if (a1).toInt = 124 then ((33 : Int32)) else ((29 : Int32))))))))))))))))))
def BX4_areSame_11 (K11 : Int32 → Nat → Nat → (Nat → Nat × Nat) → (Nat → Nat → Int32) → (Nat → Nat → Int64) → (Nat → Nat → Option Nat) → Int32 → hS → Prop) (a1 : Option Nat) (a2 : Option Nat) (l2i : Int32) (n sl : Nat) (SH : Nat → Nat × Nat) (FI : Nat → Nat → Int32) (FL : Nat → Nat → Int64) (FR : Nat → Nat → Option Nat) : Int32 → hS → Prop := (P_sm (a1) (fun c1 => (P_if ((l2i).toInt < (Int32.ofNat (SH c1).2).toInt) (P_sm (a1) (fun c3 => P_and (p_in (l2i) (SH c3).2) (P_sm (a2) (fun c4 => P_and (p_in (l2i) (SH c4).2) (P_if ((FI c3 (l2i).toInt.toNat).toInt = (FI c4 (l2i).toInt.toNat).toInt) (K11 ((l2i) + (1 : Int32)) n sl SH FI FL FR) (P_ret ((0 : Int32)) (n, sl, SH, FI, FL, FR))))))) (P_ret ((1 : Int32)) (n, sl, SH, FI, FL, FR)))))
def GX4_areSame_11  (a1 : Option Nat) (a2 : Option Nat) : Nat → Int32 → Nat → Nat → (Nat → Nat × Nat) → (Nat → Nat → Int32) → (Nat → Nat → Int64) → (Nat → Nat → Option Nat) → Int32 → hS → Prop
  | 0, _, _, _, _, _, _, _ => fun _ _ => False
  | g + 1, l2i, n, sl, SH, FI, FL, FR => BX4_areSame_11  (GX4_areSame_11  a1 a2 g) a1 a2 l2i n sl SH FI FL FR
def RX4_areSame_11  (a1 : Option Nat) (a2 : Option Nat) (l2i : Int32) (n sl : Nat) (SH : Nat → Nat × Nat) (FI : Nat → Nat → Int32) (FL : Nat → Nat → Int64) (FR : Nat → Nat → Option Nat) : Int32 → hS → Prop := fun v s => ∃ g, GX4_areSame_11  a1 a2 g l2i n sl SH FI FL FR v s
def RX4_areSame (a1 : Option Nat) (a2 : Option Nat) (n sl : Nat) (SH : Nat → Nat × Nat) (FI : Nat → Nat → Int32) (FL : Nat → Nat → Int64) (FR : Nat → Nat → Option Nat) : Int32 → hS → Prop := (P_sm (a1) (fun c1 => (P_sm (a2) (fun c2 => (P_if ((Int32.ofNat (SH c1).2).toInt = (Int32.ofNat (SH c2).2).toInt) (RX4_areSame_11  a1 a2 ((0 : Int32)) n sl SH FI FL FR) (P_ret ((0 : Int32)) (n, sl, SH, FI, FL, FR)))))))
def RX3_init (c : Nat) (a1 : Int32) (a2 : Int64) (n sl : Nat) (SH : Nat → Nat × Nat) (FI : Nat → Nat → Int32) (FL : Nat → Nat → Int64) (FR : Nat → Nat → Option Nat) : Unit → hS → Prop := (P_ret () (n, sl, SH, (h_up FI c 0 (a1)), (h_up FL c 1 (a2)), FR))
def RX6_init (c : Nat) (n sl : Nat) (SH : Nat → Nat × Nat) (FI : Nat → Nat → Int32) (FL : Nat → Nat → Int64) (FR : Nat → Nat → Option Nat) : Unit → hS → Prop := (P_ret () (n, sl, SH, (h_up FI c 4 ((-1 : Int32))), FL, FR))
def RX10_init (c : Nat) (a1 : Option Nat) (a2 : Int32) (n sl : Nat) (SH : Nat → Nat × Nat) (FI : Nat → Nat → Int32) (FL : Nat → Nat → Int64) (FR : Nat → Nat → Option Nat) : Unit → hS → Prop := (P_bi (P_na 1 (8) n sl SH FI FL FR) (fun v0 n0 sl0 SH0 FI0 FL0 FR0 => (P_bi (P_na 1 (8) n0 sl0 SH0 FI0 FL0 (h_up FR0 c 2 (some n))) (fun v2 n2 sl2 SH2 FI2 FL2 FR2 => (P_bi (P_na 5 (8) n2 sl2 SH2 FI2 FL2 (h_up FR2 c 3 (some n0))) (fun v4 n4 sl4 SH4 FI4 FL4 FR4 => (P_bi (P_na 0 (0) n4 sl4 SH4 FI4 FL4 (h_up FR4 c 4 (some n2))) (fun v6 n6 sl6 SH6 FI6 FL6 FR6 => (P_ret () (n6, sl6, SH6, (h_up FI6 c 1 (a2)), FL6, (h_up (h_up FR6 c 6 (some n4)) c 0 (a1))))))))))))
def RX4_readUnary (MX4_readUnary : Nat → Nat → (Nat → Nat × Nat) → (Nat → Nat → Int32) → (Nat → Nat → Int64) → (Nat → Nat → Option Nat) → Option Nat → hS → Prop) (MX4_readLevel : Int32 → Nat → Nat → (Nat → Nat × Nat) → (Nat → Nat → Int32) → (Nat → Nat → Int64) → (Nat → Nat → Option Nat) → Option Nat → hS → Prop) (MX4_readChoice : Nat → Nat → (Nat → Nat × Nat) → (Nat → Nat → Int32) → (Nat → Nat → Int64) → (Nat → Nat → Option Nat) → Option Nat → hS → Prop) (n sl : Nat) (SH : Nat → Nat × Nat) (FI : Nat → Nat → Int32) (FL : Nat → Nat → Int64) (FR : Nat → Nat → Option Nat) : Option Nat → hS → Prop := (P_bi (P_nw 3 n sl SH FI FL FR) (fun v0 n0 sl0 SH0 FI0 FL0 FR0 => (P_bi (RX3_init n (FI0 110 8) (FL0 110 9) n0 sl0 SH0 FI0 FL0 FR0) (fun v1 n1 sl1 SH1 FI1 FL1 FR1 => (P_if ((FI1 n 0).toInt = 5 ∨ (FI1 n 0).toInt = 11 ∨ (FI1 n 0).toInt = 12 ∨ (FI1 n 0).toInt = 13) (P_bi (RX4_take  n1 sl1 SH1 FI1 FL1 FR1) (fun v3 n3 sl3 SH3 FI3 FL3 FR3 => (P_ret (some n) (n3, sl3, SH3, FI3, FL3, FR3)))) (P_if ((FI1 n 0).toInt = 6 ∨ (FI1 n 0).toInt = 14 ∨ (FI1 n 0).toInt = 45 ∨ (FI1 n 0).toInt = 126) (P_bi (RX4_raise  n1 sl1 SH1 FI1 FL1 FR1) (fun v5 n5 sl5 SH5 FI5 FL5 FR5 => (P_if ((v5).toInt = 0) (P_ret (some n) (n5, sl5, SH5, FI5, FL5, FR5)) (P_bi (RX4_take  n5 sl5 SH5 FI5 FL5 FR5) (fun v7 n7 sl7 SH7 FI7 FL7 FR7 => (P_bi (MX4_readUnary  n7 sl7 SH7 FI7 FL7 FR7) (fun v8 n8 sl8 SH8 FI8 FL8 FR8 => (P_ret (some n) (n8, sl8, SH8, (h_up FI8 110 4 ((FI8 110 4) - ((1 : Int32)))), FL8, (h_up FR8 n 3 (v8))))))))))) (P_if ((FI1 n 0).toInt = 37) (P_bi (RX4_take  n1 sl1 SH1 FI1 FL1 FR1) (fun v12 n12 sl12 SH12 FI12 FL12 FR12 => (P_bi (RX4_refuseHighRegister  n12 sl12 SH12 FI12 FL12 FR12) (fun v13 n13 sl13 SH13 FI13 FL13 FR13 => (P_bi (RX4_expect ((5 : Int32)) n13 sl13 SH13 FI13 (h_up FL13 n 1 (v13)) FR13) (fun v15 n15 sl15 SH15 FI15 FL15 FR15 => (P_ret (some n) (n15, sl15, SH15, FI15, FL15, FR15)))))))) (P_if ((FI1 n 0).toInt = 40) (P_bi (RX4_raise  n1 sl1 SH1 FI1 FL1 FR1) (fun v17 n17 sl17 SH17 FI17 FL17 FR17 => (P_if ((v17).toInt = 0) (P_ret (some n) (n17, sl17, SH17, FI17, FL17, FR17)) (P_bi (RX4_take  n17 sl17 SH17 FI17 FL17 FR17) (fun v19 n19 sl19 SH19 FI19 FL19 FR19 => (P_bi (MX4_readChoice  n19 sl19 SH19 FI19 FL19 FR19) (fun v20 n20 sl20 SH20 FI20 FL20 FR20 => (P_bi (RX4_expect ((41 : Int32)) n20 sl20 SH20 FI20 FL20 (h_up FR20 n 3 (v20))) (fun v22 n22 sl22 SH22 FI22 FL22 FR22 => (P_ret (some n) (n22, sl22, SH22, (h_up FI22 110 4 ((FI22 110 4) - ((1 : Int32)))), FL22, FR22))))))))))) (P_bi (RX4_refuse ((1 : Int32)) n1 sl1 SH1 FI1 FL1 FR1) (fun v24 n24 sl24 SH24 FI24 FL24 FR24 => (P_ret (some n) (n24, sl24, SH24, FI24, FL24, FR24))))))))))))
def BX4_readLevel_68 (K68 : Option Nat → Option Nat → Int32 → Int32 → Nat → Nat → (Nat → Nat × Nat) → (Nat → Nat → Int32) → (Nat → Nat → Int64) → (Nat → Nat → Option Nat) → Option Nat → hS → Prop) (MX4_readUnary : Nat → Nat → (Nat → Nat × Nat) → (Nat → Nat → Int32) → (Nat → Nat → Int64) → (Nat → Nat → Option Nat) → Option Nat → hS → Prop) (MX4_readLevel : Int32 → Nat → Nat → (Nat → Nat × Nat) → (Nat → Nat → Int32) → (Nat → Nat → Int64) → (Nat → Nat → Option Nat) → Option Nat → hS → Prop) (MX4_readChoice : Nat → Nat → (Nat → Nat × Nat) → (Nat → Nat → Int32) → (Nat → Nat → Int64) → (Nat → Nat → Option Nat) → Option Nat → hS → Prop) (a1 : Int32) (l3o : Option Nat) (l4o : Option Nat) (l5i : Int32) (l6i : Int32) (n sl : Nat) (SH : Nat → Nat × Nat) (FI : Nat → Nat → Int32) (FL : Nat → Nat → Int64) (FR : Nat → Nat → Option Nat) : Option Nat → hS → Prop := (P_if ((l6i).toInt < (l5i).toInt) (P_if ((fX4_levelOf (FI 110 8) SH FI FL FR).toInt = (a1).toInt) (P_bi (RX4_take  n sl SH FI FL FR) (fun v3 n3 sl3 SH3 FI3 FL3 FR3 => (P_bi (MX4_readLevel ((a1) + ((1 : Int32))) n3 sl3 SH3 FI3 FL3 FR3) (fun v4 n4 sl4 SH4 FI4 FL4 FR4 => (P_sm (l4o) (fun c6 => (P_sm (l4o) (fun c7 => (P_sm ((h_up FR4 c6 6 (v4)) c7 6) (fun c8 => (K68 (l3o) ((h_up FR4 c6 6 (v4)) c7 6) (l5i) ((l6i) + (1 : Int32)) n4 sl4 SH4 (h_up FI4 c8 2 (FI 110 8)) FL4 (h_up FR4 c6 6 (v4))))))))))))) (P_ret (l3o) (n, sl, SH, FI, FL, FR))) (P_ret (l3o) (n, sl, SH, FI, FL, FR)))
def GX4_readLevel_68  (MX4_readUnary : Nat → Nat → (Nat → Nat × Nat) → (Nat → Nat → Int32) → (Nat → Nat → Int64) → (Nat → Nat → Option Nat) → Option Nat → hS → Prop) (MX4_readLevel : Int32 → Nat → Nat → (Nat → Nat × Nat) → (Nat → Nat → Int32) → (Nat → Nat → Int64) → (Nat → Nat → Option Nat) → Option Nat → hS → Prop) (MX4_readChoice : Nat → Nat → (Nat → Nat × Nat) → (Nat → Nat → Int32) → (Nat → Nat → Int64) → (Nat → Nat → Option Nat) → Option Nat → hS → Prop) (a1 : Int32) : Nat → Option Nat → Option Nat → Int32 → Int32 → Nat → Nat → (Nat → Nat × Nat) → (Nat → Nat → Int32) → (Nat → Nat → Int64) → (Nat → Nat → Option Nat) → Option Nat → hS → Prop
  | 0, _, _, _, _, _, _, _, _, _, _ => fun _ _ => False
  | g + 1, l3o, l4o, l5i, l6i, n, sl, SH, FI, FL, FR => BX4_readLevel_68  (GX4_readLevel_68  MX4_readUnary MX4_readLevel MX4_readChoice a1 g) MX4_readUnary MX4_readLevel MX4_readChoice a1 l3o l4o l5i l6i n sl SH FI FL FR
def RX4_readLevel_68  (MX4_readUnary : Nat → Nat → (Nat → Nat × Nat) → (Nat → Nat → Int32) → (Nat → Nat → Int64) → (Nat → Nat → Option Nat) → Option Nat → hS → Prop) (MX4_readLevel : Int32 → Nat → Nat → (Nat → Nat × Nat) → (Nat → Nat → Int32) → (Nat → Nat → Int64) → (Nat → Nat → Option Nat) → Option Nat → hS → Prop) (MX4_readChoice : Nat → Nat → (Nat → Nat × Nat) → (Nat → Nat → Int32) → (Nat → Nat → Int64) → (Nat → Nat → Option Nat) → Option Nat → hS → Prop) (a1 : Int32) (l3o : Option Nat) (l4o : Option Nat) (l5i : Int32) (l6i : Int32) (n sl : Nat) (SH : Nat → Nat × Nat) (FI : Nat → Nat → Int32) (FL : Nat → Nat → Int64) (FR : Nat → Nat → Option Nat) : Option Nat → hS → Prop := fun v s => ∃ g, GX4_readLevel_68  MX4_readUnary MX4_readLevel MX4_readChoice a1 g l3o l4o l5i l6i n sl SH FI FL FR v s
def RX4_readLevel_63  (MX4_readUnary : Nat → Nat → (Nat → Nat × Nat) → (Nat → Nat → Int32) → (Nat → Nat → Int64) → (Nat → Nat → Option Nat) → Option Nat → hS → Prop) (MX4_readLevel : Int32 → Nat → Nat → (Nat → Nat × Nat) → (Nat → Nat → Int32) → (Nat → Nat → Int64) → (Nat → Nat → Option Nat) → Option Nat → hS → Prop) (MX4_readChoice : Nat → Nat → (Nat → Nat × Nat) → (Nat → Nat → Int32) → (Nat → Nat → Int64) → (Nat → Nat → Option Nat) → Option Nat → hS → Prop) (a1 : Int32) (l3o : Option Nat) (l4o : Option Nat) (s0i : Int32) (n sl : Nat) (SH : Nat → Nat × Nat) (FI : Nat → Nat → Int32) (FL : Nat → Nat → Int64) (FR : Nat → Nat → Option Nat) : Option Nat → hS → Prop := (RX4_readLevel_68  MX4_readUnary MX4_readLevel MX4_readChoice a1 (l3o) (l4o) (s0i) ((0 : Int32)) n sl SH FI FL FR)
def RX4_readLevel (MX4_readUnary : Nat → Nat → (Nat → Nat × Nat) → (Nat → Nat → Int32) → (Nat → Nat → Int64) → (Nat → Nat → Option Nat) → Option Nat → hS → Prop) (MX4_readLevel : Int32 → Nat → Nat → (Nat → Nat × Nat) → (Nat → Nat → Int32) → (Nat → Nat → Int64) → (Nat → Nat → Option Nat) → Option Nat → hS → Prop) (MX4_readChoice : Nat → Nat → (Nat → Nat × Nat) → (Nat → Nat → Int32) → (Nat → Nat → Int64) → (Nat → Nat → Option Nat) → Option Nat → hS → Prop) (a1 : Int32) (n sl : Nat) (SH : Nat → Nat × Nat) (FI : Nat → Nat → Int32) (FL : Nat → Nat → Int64) (FR : Nat → Nat → Option Nat) : Option Nat → hS → Prop := (P_if ((a1).toInt < ((7 : Int32)).toInt) (P_bi (MX4_readLevel ((a1) + ((1 : Int32))) n sl SH FI FL FR) (fun v1 n1 sl1 SH1 FI1 FL1 FR1 => (P_if ((fX4_levelOf (FI1 110 8) SH1 FI1 FL1 FR1).toInt = (a1).toInt) (P_bi (P_nw 3 n1 sl1 SH1 FI1 FL1 FR1) (fun v4 n4 sl4 SH4 FI4 FL4 FR4 => (P_bi (RX3_init n1 ((25 : Int32)) ((0 : Int64)) n4 sl4 SH4 FI4 FL4 FR4) (fun v5 n5 sl5 SH5 FI5 FL5 FR5 => (P_if ((a1).toInt = ((3 : Int32)).toInt) (RX4_readLevel_63  MX4_readUnary MX4_readLevel MX4_readChoice a1 (some n1) (v1) ((1 : Int32)) n5 sl5 SH5 FI5 FL5 (h_up FR5 n1 3 (v1))) (RX4_readLevel_63  MX4_readUnary MX4_readLevel MX4_readChoice a1 (some n1) (v1) ((1000 : Int32)) n5 sl5 SH5 FI5 FL5 (h_up FR5 n1 3 (v1)))))))) (P_ret (v1) (n1, sl1, SH1, FI1, FL1, FR1))))) (P_bi (MX4_readUnary  n sl SH FI FL FR) (fun v8 n8 sl8 SH8 FI8 FL8 FR8 => (P_ret (v8) (n8, sl8, SH8, FI8, FL8, FR8)))))
def RX4_readChoice (MX4_readUnary : Nat → Nat → (Nat → Nat × Nat) → (Nat → Nat → Int32) → (Nat → Nat → Int64) → (Nat → Nat → Option Nat) → Option Nat → hS → Prop) (MX4_readLevel : Int32 → Nat → Nat → (Nat → Nat × Nat) → (Nat → Nat → Int32) → (Nat → Nat → Int64) → (Nat → Nat → Option Nat) → Option Nat → hS → Prop) (MX4_readChoice : Nat → Nat → (Nat → Nat × Nat) → (Nat → Nat → Int32) → (Nat → Nat → Int64) → (Nat → Nat → Option Nat) → Option Nat → hS → Prop) (n sl : Nat) (SH : Nat → Nat × Nat) (FI : Nat → Nat → Int32) (FL : Nat → Nat → Int64) (FR : Nat → Nat → Option Nat) : Option Nat → hS → Prop := (P_bi (MX4_readLevel ((0 : Int32)) n sl SH FI FL FR) (fun v0 n0 sl0 SH0 FI0 FL0 FR0 => (P_if ((FI0 110 8).toInt = ((63 : Int32)).toInt) (P_bi (RX4_raise  n0 sl0 SH0 FI0 FL0 FR0) (fun v2 n2 sl2 SH2 FI2 FL2 FR2 => (P_if ((v2).toInt = 0) (P_ret (v0) (n2, sl2, SH2, FI2, FL2, FR2)) (P_bi (P_nw 3 n2 sl2 SH2 FI2 FL2 FR2) (fun v4 n4 sl4 SH4 FI4 FL4 FR4 => (P_bi (RX3_init n2 ((63 : Int32)) ((0 : Int64)) n4 sl4 SH4 FI4 FL4 FR4) (fun v5 n5 sl5 SH5 FI5 FL5 FR5 => (P_bi (RX4_take  n5 sl5 SH5 FI5 FL5 (h_up FR5 n2 3 (v0))) (fun v7 n7 sl7 SH7 FI7 FL7 FR7 => (P_bi (MX4_readChoice  n7 sl7 SH7 FI7 FL7 FR7) (fun v8 n8 sl8 SH8 FI8 FL8 FR8 => (P_bi (RX4_expect ((58 : Int32)) n8 sl8 SH8 FI8 FL8 (h_up FR8 n2 4 (v8))) (fun v10 n10 sl10 SH10 FI10 FL10 FR10 => (P_bi (MX4_readChoice  n10 sl10 SH10 FI10 FL10 FR10) (fun v11 n11 sl11 SH11 FI11 FL11 FR11 => (P_ret (some n2) (n11, sl11, SH11, (h_up FI11 110 4 ((FI11 110 4) - ((1 : Int32)))), FL11, (h_up FR11 n2 5 (v11))))))))))))))))))) (P_ret (v0) (n0, sl0, SH0, FI0, FL0, FR0)))))
def QX4 : Nat → Nat → Int32 →  Nat → Nat → (Nat → Nat × Nat) → (Nat → Nat → Int32) → (Nat → Nat → Int64) → (Nat → Nat → Option Nat) → Option Nat → hS → Prop
  | 0, _, _, _, _, _, _, _, _ => fun _ _ => False
  | g + 1, 0, _, n, sl, SH, FI, FL, FR => RX4_readUnary (fun  n sl SH FI FL FR => QX4 g 0 0 n sl SH FI FL FR) (fun a1 n sl SH FI FL FR => QX4 g 1 a1 n sl SH FI FL FR) (fun  n sl SH FI FL FR => QX4 g 2 0 n sl SH FI FL FR)  n sl SH FI FL FR
  | g + 1, 1, a1, n, sl, SH, FI, FL, FR => RX4_readLevel (fun  n sl SH FI FL FR => QX4 g 0 0 n sl SH FI FL FR) (fun a1 n sl SH FI FL FR => QX4 g 1 a1 n sl SH FI FL FR) (fun  n sl SH FI FL FR => QX4 g 2 0 n sl SH FI FL FR) a1 n sl SH FI FL FR
  | g + 1, _, _, n, sl, SH, FI, FL, FR => RX4_readChoice (fun  n sl SH FI FL FR => QX4 g 0 0 n sl SH FI FL FR) (fun a1 n sl SH FI FL FR => QX4 g 1 a1 n sl SH FI FL FR) (fun  n sl SH FI FL FR => QX4 g 2 0 n sl SH FI FL FR)  n sl SH FI FL FR
def RX4_readUnary_  (n sl : Nat) (SH : Nat → Nat × Nat) (FI : Nat → Nat → Int32) (FL : Nat → Nat → Int64) (FR : Nat → Nat → Option Nat) : Option Nat → hS → Prop := fun v s => ∃ g, QX4 g 0 0 n sl SH FI FL FR v s
def RX4_readLevel_ (a1 : Int32) (n sl : Nat) (SH : Nat → Nat × Nat) (FI : Nat → Nat → Int32) (FL : Nat → Nat → Int64) (FR : Nat → Nat → Option Nat) : Option Nat → hS → Prop := fun v s => ∃ g, QX4 g 1 a1 n sl SH FI FL FR v s
def RX4_readChoice_  (n sl : Nat) (SH : Nat → Nat × Nat) (FI : Nat → Nat → Int32) (FL : Nat → Nat → Int64) (FR : Nat → Nat → Option Nat) : Option Nat → hS → Prop := fun v s => ∃ g, QX4 g 2 0 n sl SH FI FL FR v s
def RJ7_checkLength_df160 (a1 : Int32) (a2 : Int32) (n sl : Nat) (SH : Nat → Nat × Nat) (FI : Nat → Nat → Int32) (FL : Nat → Nat → Int64) (FR : Nat → Nat → Option Nat) : Unit → hS → Prop := (P_if ((a2).toInt < (a1).toInt) (fun _ _ => False) (P_ret () (n, sl, SH, FI, FL, FR)))
def RJ7_copyOf_59c91 (a1 : Option Nat) (a2 : Int32) (n sl : Nat) (SH : Nat → Nat × Nat) (FI : Nat → Nat → Int32) (FL : Nat → Nat → Int64) (FR : Nat → Nat → Option Nat) : Option Nat → hS → Prop := (P_sm (a1) (fun c1 => (P_if ((a2).toInt = (Int32.ofNat (SH c1).2).toInt) (P_sm (a1) (fun c4 => (P_bi (P_cl c4 n sl SH FI FL FR) (fun v2 n2 sl2 SH2 FI2 FL2 FR2 => (P_ret (some n) (n2, sl2, SH2, FI2, FL2, FR2)))))) (P_bi (P_na 0 ((a2).toInt.toNat) n sl SH FI FL FR) (fun v4 n4 sl4 SH4 FI4 FL4 FR4 => (P_sm (a1) (fun c6 => (P_sm (a1) (fun c9 => (P_sm (some n) (fun c10 => (P_bi (P_cp c9 c10 ((0 : Int32)) ((0 : Int32)) (fJ9_min_7cf53 (Int32.ofNat (SH4 c6).2) (a2) SH4 FI4 FL4 FR4) n4 sl4 SH4 FI4 FL4 FR4) (fun v7 n7 sl7 SH7 FI7 FL7 FR7 => (P_ret (some n) (n7, sl7, SH7, FI7, FL7, FR7)))))))))))))))
def RJ7_copyOfRangeInt_feecc (a1 : Option Nat) (a2 : Int32) (a3 : Int32) (n sl : Nat) (SH : Nat → Nat × Nat) (FI : Nat → Nat → Int32) (FL : Nat → Nat → Int64) (FR : Nat → Nat → Option Nat) : Option Nat → hS → Prop := (P_bi (RJ7_checkLength_df160 (a2) (a3) n sl SH FI FL FR) (fun v0 n0 sl0 SH0 FI0 FL0 FR0 => (P_bi (P_na 0 (((a3) - (a2)).toInt.toNat) n0 sl0 SH0 FI0 FL0 FR0) (fun v1 n1 sl1 SH1 FI1 FL1 FR1 => (P_sm (a1) (fun c3 => (P_sm (a1) (fun c6 => (P_sm (some n0) (fun c7 => (P_bi (P_cp c6 c7 (a2) ((0 : Int32)) (fJ9_min_7cf53 ((Int32.ofNat (SH1 c3).2) - (a2)) ((a3) - (a2)) SH1 FI1 FL1 FR1) n1 sl1 SH1 FI1 FL1 FR1) (fun v4 n4 sl4 SH4 FI4 FL4 FR4 => (P_ret (some n0) (n4, sl4, SH4, FI4, FL4, FR4))))))))))))))
def RJ7_copyOfRange_feecc (a1 : Option Nat) (a2 : Int32) (a3 : Int32) (n sl : Nat) (SH : Nat → Nat × Nat) (FI : Nat → Nat → Int32) (FL : Nat → Nat → Int64) (FR : Nat → Nat → Option Nat) : Option Nat → hS → Prop := (P_if ((a2).toInt = 0) (P_sm (a1) (fun c2 => (P_if ((a3).toInt = (Int32.ofNat (SH c2).2).toInt) (P_sm (a1) (fun c5 => (P_bi (P_cl c5 n sl SH FI FL FR) (fun v3 n3 sl3 SH3 FI3 FL3 FR3 => (P_ret (some n) (n3, sl3, SH3, FI3, FL3, FR3)))))) (P_bi (RJ7_copyOfRangeInt_feecc (a1) (a2) (a3) n sl SH FI FL FR) (fun v5 n5 sl5 SH5 FI5 FL5 FR5 => (P_ret (v5) (n5, sl5, SH5, FI5, FL5, FR5))))))) (P_bi (RJ7_copyOfRangeInt_feecc (a1) (a2) (a3) n sl SH FI FL FR) (fun v6 n6 sl6 SH6 FI6 FL6 FR6 => (P_ret (v6) (n6, sl6, SH6, FI6, FL6, FR6)))))
def RX7_letters (a1 : Int32) (n sl : Nat) (SH : Nat → Nat × Nat) (FI : Nat → Nat → Int32) (FL : Nat → Nat → Int64) (FR : Nat → Nat → Option Nat) : Option Nat → hS → Prop := (P_if ((a1).toInt < 0) (P_bi (P_na 0 (0) n sl SH FI FL FR) (fun v1 n1 sl1 SH1 FI1 FL1 FR1 => (P_ret (some n) (n1, sl1, SH1, FI1, FL1, FR1)))) (P_if ((a1).toInt < (FI 111 4).toInt) (P_and (p_in (a1) (SH 115).2) (P_sm (FR 111 5) (fun c4 => (P_if ((Int32.ofNat (SH c4).2).toInt < (FI 115 (a1).toInt.toNat).toInt) (P_bi (P_na 0 (0) n sl SH FI FL FR) (fun v5 n5 sl5 SH5 FI5 FL5 FR5 => (P_ret (some n) (n5, sl5, SH5, FI5, FL5, FR5)))) (P_and (p_in (a1) (SH 114).2) (P_and (p_in (a1) (SH 115).2) (P_if ((FI 115 (a1).toInt.toNat).toInt < (FI 114 (a1).toInt.toNat).toInt) (P_bi (P_na 0 (0) n sl SH FI FL FR) (fun v7 n7 sl7 SH7 FI7 FL7 FR7 => (P_ret (some n) (n7, sl7, SH7, FI7, FL7, FR7)))) (P_and (p_in (a1) (SH 114).2) (P_and (p_in (a1) (SH 115).2) (P_bi (RJ7_copyOfRange_feecc (FR 111 5) (FI 114 (a1).toInt.toNat) (FI 115 (a1).toInt.toNat) n sl SH FI FL FR) (fun v8 n8 sl8 SH8 FI8 FL8 FR8 => (P_ret (v8) (n8, sl8, SH8, FI8, FL8, FR8))))))))))))) (P_bi (P_na 0 (0) n sl SH FI FL FR) (fun v9 n9 sl9 SH9 FI9 FL9 FR9 => (P_ret (some n) (n9, sl9, SH9, FI9, FL9, FR9))))))
def BX4_isKnown_2 (K2 : Int32 → Nat → Nat → (Nat → Nat × Nat) → (Nat → Nat → Int32) → (Nat → Nat → Int64) → (Nat → Nat → Option Nat) → Int32 → hS → Prop) (a1 : Option Nat) (l2i : Int32) (n sl : Nat) (SH : Nat → Nat × Nat) (FI : Nat → Nat → Int32) (FL : Nat → Nat → Int64) (FR : Nat → Nat → Option Nat) : Int32 → hS → Prop := (P_if ((l2i).toInt < (FI 110 3).toInt) (P_sm (FR 110 2) (fun c2 => (P_if ((l2i).toInt < (Int32.ofNat (SH c2).2).toInt) (P_sm (FR 110 2) (fun c4 => P_and (p_in (l2i) (SH c4).2) (P_sm (FR c4 (l2i).toInt.toNat) (fun c5 => (P_bi (RX4_areSame (FR c5 0) (a1) n sl SH FI FL FR) (fun v5 n5 sl5 SH5 FI5 FL5 FR5 => (P_if ((v5).toInt = 0) (K2 ((l2i) + (1 : Int32)) n5 sl5 SH5 FI5 FL5 FR5) (P_ret ((1 : Int32)) (n5, sl5, SH5, FI5, FL5, FR5))))))))) (P_ret ((0 : Int32)) (n, sl, SH, FI, FL, FR))))) (P_ret ((0 : Int32)) (n, sl, SH, FI, FL, FR)))
def GX4_isKnown_2  (a1 : Option Nat) : Nat → Int32 → Nat → Nat → (Nat → Nat × Nat) → (Nat → Nat → Int32) → (Nat → Nat → Int64) → (Nat → Nat → Option Nat) → Int32 → hS → Prop
  | 0, _, _, _, _, _, _, _ => fun _ _ => False
  | g + 1, l2i, n, sl, SH, FI, FL, FR => BX4_isKnown_2  (GX4_isKnown_2  a1 g) a1 l2i n sl SH FI FL FR
def RX4_isKnown_2  (a1 : Option Nat) (l2i : Int32) (n sl : Nat) (SH : Nat → Nat × Nat) (FI : Nat → Nat → Int32) (FL : Nat → Nat → Int64) (FR : Nat → Nat → Option Nat) : Int32 → hS → Prop := fun v s => ∃ g, GX4_isKnown_2  a1 g l2i n sl SH FI FL FR v s
def RX4_isKnown (a1 : Option Nat) (n sl : Nat) (SH : Nat → Nat × Nat) (FI : Nat → Nat → Int32) (FL : Nat → Nat → Int64) (FR : Nat → Nat → Option Nat) : Int32 → hS → Prop := (RX4_isKnown_2  a1 ((0 : Int32)) n sl SH FI FL FR)
def RX4_readBlock_82   (l1i : Int32) (n sl : Nat) (SH : Nat → Nat × Nat) (FI : Nat → Nat → Int32) (FL : Nat → Nat → Int64) (FR : Nat → Nat → Option Nat) : Option Nat → hS → Prop := (P_if ((l1i).toInt = 0) (P_bi (RX4_refuse ((1 : Int32)) n sl SH FI FL FR) (fun v1 n1 sl1 SH1 FI1 FL1 FR1 => (P_bi (RJ7_copyOf_59c91 (some 117) (l1i) n1 sl1 SH1 FI1 FL1 FR1) (fun v2 n2 sl2 SH2 FI2 FL2 FR2 => (P_ret (v2) (n2, sl2, SH2, FI2, FL2, FR2)))))) (P_bi (RJ7_copyOf_59c91 (some 117) (l1i) n sl SH FI FL FR) (fun v3 n3 sl3 SH3 FI3 FL3 FR3 => (P_ret (v3) (n3, sl3, SH3, FI3, FL3, FR3)))))
def RX4_readBlock_76 (K4 : Int32 → Int32 → Nat → Nat → (Nat → Nat × Nat) → (Nat → Nat → Int32) → (Nat → Nat → Int64) → (Nat → Nat → Option Nat) → Option Nat → hS → Prop)  (l1i : Int32) (l2i : Int32) (n sl : Nat) (SH : Nat → Nat × Nat) (FI : Nat → Nat → Int32) (FL : Nat → Nat → Int64) (FR : Nat → Nat → Option Nat) : Option Nat → hS → Prop := (K4 (l1i) ((l2i) + (1 : Int32)) n sl SH FI FL FR)
def BX4_readBlock_4 (K4 : Int32 → Int32 → Nat → Nat → (Nat → Nat × Nat) → (Nat → Nat → Int32) → (Nat → Nat → Int64) → (Nat → Nat → Option Nat) → Option Nat → hS → Prop)  (l1i : Int32) (l2i : Int32) (n sl : Nat) (SH : Nat → Nat × Nat) (FI : Nat → Nat → Int32) (FL : Nat → Nat → Int64) (FR : Nat → Nat → Option Nat) : Option Nat → hS → Prop := (P_if ((Int32.ofNat (SH 117).2).toInt < (l2i).toInt) (RX4_readBlock_82   (l1i) n sl SH FI FL FR) (P_if ((FI 110 8).toInt = ((5 : Int32)).toInt) (P_if (((255 : Int64)).toInt < (FL 110 9).toInt) (P_bi (RX4_refuse ((3 : Int32)) n sl SH FI FL FR) (fun v3 n3 sl3 SH3 FI3 FL3 FR3 => (RX4_readBlock_76 K4  (l1i) (l2i) n3 sl3 SH3 FI3 FL3 FR3))) (P_if ((l1i).toInt < (Int32.ofNat (SH 117).2).toInt) (P_and (p_in (l1i) (SH 117).2) (P_bi (RX4_take  n sl SH (h_up FI 117 (l1i).toInt.toNat ((FL 110 9).toInt32)) FL FR) (fun v5 n5 sl5 SH5 FI5 FL5 FR5 => (RX4_readBlock_76 K4  ((l1i) + (1 : Int32)) (l2i) n5 sl5 SH5 FI5 FL5 FR5)))) (P_bi (RX4_refuse ((6 : Int32)) n sl SH FI FL FR) (fun v6 n6 sl6 SH6 FI6 FL6 FR6 => (RX4_readBlock_76 K4  (l1i) (l2i) n6 sl6 SH6 FI6 FL6 FR6))))) (RX4_readBlock_82   (l1i) n sl SH FI FL FR)))
def GX4_readBlock_4   : Nat → Int32 → Int32 → Nat → Nat → (Nat → Nat × Nat) → (Nat → Nat → Int32) → (Nat → Nat → Int64) → (Nat → Nat → Option Nat) → Option Nat → hS → Prop
  | 0, _, _, _, _, _, _, _, _ => fun _ _ => False
  | g + 1, l1i, l2i, n, sl, SH, FI, FL, FR => BX4_readBlock_4  (GX4_readBlock_4   g)  l1i l2i n sl SH FI FL FR
def RX4_readBlock_4   (l1i : Int32) (l2i : Int32) (n sl : Nat) (SH : Nat → Nat × Nat) (FI : Nat → Nat → Int32) (FL : Nat → Nat → Int64) (FR : Nat → Nat → Option Nat) : Option Nat → hS → Prop := fun v s => ∃ g, GX4_readBlock_4   g l1i l2i n sl SH FI FL FR v s
def RX4_readBlock  (n sl : Nat) (SH : Nat → Nat × Nat) (FI : Nat → Nat → Int32) (FL : Nat → Nat → Int64) (FR : Nat → Nat → Option Nat) : Option Nat → hS → Prop := (RX4_readBlock_4   ((0 : Int32)) ((0 : Int32)) n sl SH FI FL FR)
def RX4_readPlace_45   (l1o : Option Nat) (l2i : Int32) (n sl : Nat) (SH : Nat → Nat × Nat) (FI : Nat → Nat → Int32) (FL : Nat → Nat → Int64) (FR : Nat → Nat → Option Nat) : Option Nat → hS → Prop := (P_if ((l2i).toInt = ((7 : Int32)).toInt) (P_sm (l1o) (fun c2 => (P_bi (RX4_refuseHighRegister  n sl SH (h_up FI c2 0 ((2 : Int32))) FL FR) (fun v2 n2 sl2 SH2 FI2 FL2 FR2 => (P_sm (l1o) (fun c4 => (P_bi (RX4_expect ((5 : Int32)) n2 sl2 SH2 FI2 (h_up FL2 c4 1 (v2)) FR2) (fun v4 n4 sl4 SH4 FI4 FL4 FR4 => (P_ret (l1o) (n4, sl4, SH4, FI4, FL4, FR4)))))))))) (P_if ((l2i).toInt = ((91 : Int32)).toInt) (P_sm (l1o) (fun c7 => (P_bi (RX4_readChoice_  n sl SH (h_up FI c7 0 ((1 : Int32))) FL FR) (fun v7 n7 sl7 SH7 FI7 FL7 FR7 => (P_sm (l1o) (fun c9 => (P_bi (RX4_expect ((93 : Int32)) n7 sl7 SH7 FI7 FL7 (h_up FR7 c9 2 (v7))) (fun v9 n9 sl9 SH9 FI9 FL9 FR9 => (P_ret (l1o) (n9, sl9, SH9, (h_up FI9 110 4 ((FI9 110 4) - ((1 : Int32)))), FL9, FR9)))))))))) (P_if ((l2i).toInt = ((8 : Int32)).toInt) (P_sm (l1o) (fun c13 => (P_bi (RX4_readChoice_  n sl SH (h_up FI c13 0 ((3 : Int32))) FL FR) (fun v13 n13 sl13 SH13 FI13 FL13 FR13 => (P_sm (l1o) (fun c15 => (P_ret (l1o) (n13, sl13, SH13, FI13, FL13, (h_up FR13 c15 2 (v13)))))))))) (P_if ((l2i).toInt = ((9 : Int32)).toInt) (P_sm (l1o) (fun c17 => (P_bi (RX4_readBlock  n sl SH (h_up FI c17 0 ((4 : Int32))) FL FR) (fun v17 n17 sl17 SH17 FI17 FL17 FR17 => (P_sm (l1o) (fun c19 => (P_ret (l1o) (n17, sl17, SH17, FI17, FL17, (h_up FR17 c19 3 (v17)))))))))) (P_ret (l1o) (n, sl, SH, FI, FL, FR))))))
def RX4_readPlace_41   (l1o : Option Nat) (l2i : Int32) (n sl : Nat) (SH : Nat → Nat × Nat) (FI : Nat → Nat → Int32) (FL : Nat → Nat → Int64) (FR : Nat → Nat → Option Nat) : Option Nat → hS → Prop := (P_bi (RX4_take  n sl SH FI FL FR) (fun v0 n0 sl0 SH0 FI0 FL0 FR0 => (RX4_readPlace_45   (l1o) (l2i) n0 sl0 SH0 FI0 FL0 FR0)))
def RX4_readPlace  (n sl : Nat) (SH : Nat → Nat × Nat) (FI : Nat → Nat → Int32) (FL : Nat → Nat → Int64) (FR : Nat → Nat → Option Nat) : Option Nat → hS → Prop := (P_bi (P_nw 6 n sl SH FI FL FR) (fun v0 n0 sl0 SH0 FI0 FL0 FR0 => (P_bi (RX6_init n n0 sl0 SH0 FI0 FL0 FR0) (fun v1 n1 sl1 SH1 FI1 FL1 FR1 => (P_if ((fX4_beginsPlace (FI1 110 8) SH1 FI1 FL1 FR1).toInt = 0) (P_bi (RX4_refuse ((1 : Int32)) n1 sl1 SH1 FI1 FL1 FR1) (fun v4 n4 sl4 SH4 FI4 FL4 FR4 => (RX4_readPlace_45   (some n) (FI1 110 8) n4 sl4 SH4 FI4 FL4 FR4))) (P_if ((FI1 110 8).toInt = ((91 : Int32)).toInt) (P_bi (RX4_raise  n1 sl1 SH1 FI1 FL1 FR1) (fun v6 n6 sl6 SH6 FI6 FL6 FR6 => (P_if ((v6).toInt = 0) (RX4_readPlace_45   (some n) (FI1 110 8) n6 sl6 SH6 FI6 FL6 FR6) (RX4_readPlace_41   (some n) (FI1 110 8) n6 sl6 SH6 FI6 FL6 FR6)))) (RX4_readPlace_41   (some n) (FI1 110 8) n1 sl1 SH1 FI1 FL1 FR1)))))))
def RX4_readWidth (a1 : Option Nat) (n sl : Nat) (SH : Nat → Nat × Nat) (FI : Nat → Nat → Int32) (FL : Nat → Nat → Int64) (FR : Nat → Nat → Option Nat) : Unit → hS → Prop := (P_bi (RX4_expect ((47 : Int32)) n sl SH FI FL FR) (fun v0 n0 sl0 SH0 FI0 FL0 FR0 => (P_if ((FI0 110 8).toInt = ((5 : Int32)).toInt) (P_if (((64 : Int64)).toInt < (FL0 110 9).toInt) (P_bi (RX4_refuse ((3 : Int32)) n0 sl0 SH0 FI0 FL0 FR0) (fun v3 n3 sl3 SH3 FI3 FL3 FR3 => (P_sm (a1) (fun c5 => (P_bi (RX4_expect ((5 : Int32)) n3 sl3 SH3 (h_up FI3 c5 4 ((FL3 110 9).toInt32)) FL3 FR3) (fun v5 n5 sl5 SH5 FI5 FL5 FR5 => (P_ret () (n5, sl5, SH5, FI5, FL5, FR5)))))))) (P_sm (a1) (fun c7 => (P_bi (RX4_expect ((5 : Int32)) n0 sl0 SH0 (h_up FI0 c7 4 ((FL0 110 9).toInt32)) FL0 FR0) (fun v7 n7 sl7 SH7 FI7 FL7 FR7 => (P_ret () (n7, sl7, SH7, FI7, FL7, FR7))))))) (P_sm (a1) (fun c9 => (P_bi (RX4_expect ((5 : Int32)) n0 sl0 SH0 (h_up FI0 c9 4 ((FL0 110 9).toInt32)) FL0 FR0) (fun v9 n9 sl9 SH9 FI9 FL9 FR9 => (P_ret () (n9, sl9, SH9, FI9, FL9, FR9)))))))))
def RX4_readLocation_80 (K39 : Option Nat → Option Nat → Int32 → Nat → Nat → (Nat → Nat × Nat) → (Nat → Nat → Int32) → (Nat → Nat → Int64) → (Nat → Nat → Option Nat) → Option Nat → hS → Prop)  (l1o : Option Nat) (l2o : Option Nat) (l3i : Int32) (n sl : Nat) (SH : Nat → Nat × Nat) (FI : Nat → Nat → Int32) (FL : Nat → Nat → Int64) (FR : Nat → Nat → Option Nat) : Option Nat → hS → Prop := (P_bi (RX4_readPlace  n sl SH FI FL FR) (fun v0 n0 sl0 SH0 FI0 FL0 FR0 => (P_sm (l2o) (fun c2 => (P_sm (l2o) (fun c3 => (P_bi (RX4_readWidth ((h_up FR0 c2 5 (v0)) c3 5) n0 sl0 SH0 FI0 FL0 (h_up FR0 c2 5 (v0))) (fun v3 n3 sl3 SH3 FI3 FL3 FR3 => (K39 (l1o) ((h_up FR0 c2 5 (v0)) c3 5) ((l3i) + (1 : Int32)) n3 sl3 SH3 FI3 FL3 FR3)))))))))
def BX4_readLocation_39 (K39 : Option Nat → Option Nat → Int32 → Nat → Nat → (Nat → Nat × Nat) → (Nat → Nat → Int32) → (Nat → Nat → Int64) → (Nat → Nat → Option Nat) → Option Nat → hS → Prop)  (l1o : Option Nat) (l2o : Option Nat) (l3i : Int32) (n sl : Nat) (SH : Nat → Nat × Nat) (FI : Nat → Nat → Int32) (FL : Nat → Nat → Int64) (FR : Nat → Nat → Option Nat) : Option Nat → hS → Prop := (P_if (((8 : Int32)).toInt < (l3i).toInt) (P_bi (RX4_expect ((125 : Int32)) n sl SH FI FL FR) (fun v1 n1 sl1 SH1 FI1 FL1 FR1 => (P_ret (l1o) (n1, sl1, SH1, (h_up FI1 110 4 ((FI1 110 4) - ((1 : Int32)))), FL1, FR1)))) (P_if ((FI 110 8).toInt = ((44 : Int32)).toInt) (P_bi (RX4_take  n sl SH FI FL FR) (fun v4 n4 sl4 SH4 FI4 FL4 FR4 => (P_if ((l3i).toInt = ((8 : Int32)).toInt) (P_if ((fX4_beginsPlace (FI4 110 8) SH4 FI4 FL4 FR4).toInt = 0) (RX4_readLocation_80 K39  (l1o) (l2o) (l3i) n4 sl4 SH4 FI4 FL4 FR4) (P_bi (RX4_refuse ((6 : Int32)) n4 sl4 SH4 FI4 FL4 FR4) (fun v8 n8 sl8 SH8 FI8 FL8 FR8 => (RX4_readLocation_80 K39  (l1o) (l2o) (l3i) n8 sl8 SH8 FI8 FL8 FR8)))) (RX4_readLocation_80 K39  (l1o) (l2o) (l3i) n4 sl4 SH4 FI4 FL4 FR4)))) (P_bi (RX4_expect ((125 : Int32)) n sl SH FI FL FR) (fun v9 n9 sl9 SH9 FI9 FL9 FR9 => (P_ret (l1o) (n9, sl9, SH9, (h_up FI9 110 4 ((FI9 110 4) - ((1 : Int32)))), FL9, FR9))))))
def GX4_readLocation_39   : Nat → Option Nat → Option Nat → Int32 → Nat → Nat → (Nat → Nat × Nat) → (Nat → Nat → Int32) → (Nat → Nat → Int64) → (Nat → Nat → Option Nat) → Option Nat → hS → Prop
  | 0, _, _, _, _, _, _, _, _, _ => fun _ _ => False
  | g + 1, l1o, l2o, l3i, n, sl, SH, FI, FL, FR => BX4_readLocation_39  (GX4_readLocation_39   g)  l1o l2o l3i n sl SH FI FL FR
def RX4_readLocation_39   (l1o : Option Nat) (l2o : Option Nat) (l3i : Int32) (n sl : Nat) (SH : Nat → Nat × Nat) (FI : Nat → Nat → Int32) (FL : Nat → Nat → Int64) (FR : Nat → Nat → Option Nat) : Option Nat → hS → Prop := fun v s => ∃ g, GX4_readLocation_39   g l1o l2o l3i n sl SH FI FL FR v s
def RX4_readLocation  (n sl : Nat) (SH : Nat → Nat × Nat) (FI : Nat → Nat → Int32) (FL : Nat → Nat → Int64) (FR : Nat → Nat → Option Nat) : Option Nat → hS → Prop := (P_if ((FI 110 8).toInt = ((123 : Int32)).toInt) (P_bi (RX4_raise  n sl SH FI FL FR) (fun v1 n1 sl1 SH1 FI1 FL1 FR1 => (P_if ((v1).toInt = 0) (P_bi (RX4_readPlace  n1 sl1 SH1 FI1 FL1 FR1) (fun v3 n3 sl3 SH3 FI3 FL3 FR3 => (P_ret (v3) (n3, sl3, SH3, FI3, FL3, FR3)))) (P_bi (RX4_take  n1 sl1 SH1 FI1 FL1 FR1) (fun v4 n4 sl4 SH4 FI4 FL4 FR4 => (P_bi (RX4_readPlace  n4 sl4 SH4 FI4 FL4 FR4) (fun v5 n5 sl5 SH5 FI5 FL5 FR5 => (P_bi (RX4_readWidth (v5) n5 sl5 SH5 FI5 FL5 FR5) (fun v6 n6 sl6 SH6 FI6 FL6 FR6 => (RX4_readLocation_39   (v5) (v5) ((1 : Int32)) n6 sl6 SH6 FI6 FL6 FR6)))))))))) (P_bi (RX4_readPlace  n sl SH FI FL FR) (fun v7 n7 sl7 SH7 FI7 FL7 FR7 => (P_ret (v7) (n7, sl7, SH7, FI7, FL7, FR7)))))
def RX4_readRange (a1 : Option Nat) (a2 : Int32) (n sl : Nat) (SH : Nat → Nat × Nat) (FI : Nat → Nat → Int32) (FL : Nat → Nat → Int64) (FR : Nat → Nat → Option Nat) : Unit → hS → Prop := (P_if ((FI 110 8).toInt = ((5 : Int32)).toInt) (P_if ((a2).toInt < 0) (P_bi (RX4_refuse ((6 : Int32)) n sl SH FI FL FR) (fun v2 n2 sl2 SH2 FI2 FL2 FR2 => (P_ret () (n2, sl2, SH2, FI2, FL2, FR2)))) (P_if ((a2).toInt < ((8 : Int32)).toInt) (P_sm (a1) (fun c5 => (P_sm (a1) (fun c6 => (P_sm (FR c6 2) (fun c7 => P_and (p_in (a2) (SH c7).2) (P_bi (RX4_take  n sl SH (h_up FI c5 5 ((a2) + ((1 : Int32)))) (h_up FL c7 (a2).toInt.toNat (FL 110 9)) FR) (fun v7 n7 sl7 SH7 FI7 FL7 FR7 => (P_bi (RX4_expect ((17 : Int32)) n7 sl7 SH7 FI7 FL7 FR7) (fun v8 n8 sl8 SH8 FI8 FL8 FR8 => (P_if ((FI8 110 8).toInt = ((5 : Int32)).toInt) (P_sm (a1) (fun c11 => (P_sm (FR8 c11 2) (fun c12 => P_and (p_in (a2) (SH8 c12).2) (P_if ((FL8 c12 (a2).toInt.toNat).toInt < (FL8 110 9).toInt) (P_sm (a1) (fun c14 => (P_sm (FR8 c14 3) (fun c15 => P_and (p_in (a2) (SH8 c15).2) (P_bi (RX4_expect ((5 : Int32)) n8 sl8 SH8 FI8 (h_up FL8 c15 (a2).toInt.toNat (FL8 110 9)) FR8) (fun v15 n15 sl15 SH15 FI15 FL15 FR15 => (P_bi (RX4_expect ((58 : Int32)) n15 sl15 SH15 FI15 FL15 FR15) (fun v16 n16 sl16 SH16 FI16 FL16 FR16 => (P_ret () (n16, sl16, SH16, FI16, FL16, FR16)))))))))) (P_bi (RX4_refuse ((3 : Int32)) n8 sl8 SH8 FI8 FL8 FR8) (fun v17 n17 sl17 SH17 FI17 FL17 FR17 => (P_sm (a1) (fun c19 => (P_sm (FR17 c19 3) (fun c20 => P_and (p_in (a2) (SH17 c20).2) (P_bi (RX4_expect ((5 : Int32)) n17 sl17 SH17 FI17 (h_up FL17 c20 (a2).toInt.toNat (FL17 110 9)) FR17) (fun v20 n20 sl20 SH20 FI20 FL20 FR20 => (P_bi (RX4_expect ((58 : Int32)) n20 sl20 SH20 FI20 FL20 FR20) (fun v21 n21 sl21 SH21 FI21 FL21 FR21 => (P_ret () (n21, sl21, SH21, FI21, FL21, FR21))))))))))))))))) (P_sm (a1) (fun c23 => (P_sm (FR8 c23 3) (fun c24 => P_and (p_in (a2) (SH8 c24).2) (P_bi (RX4_expect ((5 : Int32)) n8 sl8 SH8 FI8 (h_up FL8 c24 (a2).toInt.toNat (FL8 110 9)) FR8) (fun v24 n24 sl24 SH24 FI24 FL24 FR24 => (P_bi (RX4_expect ((58 : Int32)) n24 sl24 SH24 FI24 FL24 FR24) (fun v25 n25 sl25 SH25 FI25 FL25 FR25 => (P_ret () (n25, sl25, SH25, FI25, FL25, FR25))))))))))))))))))))) (P_bi (RX4_refuse ((6 : Int32)) n sl SH FI FL FR) (fun v26 n26 sl26 SH26 FI26 FL26 FR26 => (P_ret () (n26, sl26, SH26, FI26, FL26, FR26)))))) (P_bi (RX4_refuse ((1 : Int32)) n sl SH FI FL FR) (fun v27 n27 sl27 SH27 FI27 FL27 FR27 => (P_ret () (n27, sl27, SH27, FI27, FL27, FR27)))))
def RX4_readRows_59 (K18 : Int32 → Nat → Nat → (Nat → Nat × Nat) → (Nat → Nat → Int32) → (Nat → Nat → Int64) → (Nat → Nat → Option Nat) → Unit → hS → Prop) (a1 : Option Nat) (l2i : Int32) (n sl : Nat) (SH : Nat → Nat × Nat) (FI : Nat → Nat → Int32) (FL : Nat → Nat → Int64) (FR : Nat → Nat → Option Nat) : Unit → hS → Prop := (K18 ((l2i) + (1 : Int32)) n sl SH FI FL FR)
def BX4_readRows_18 (K18 : Int32 → Nat → Nat → (Nat → Nat × Nat) → (Nat → Nat → Int32) → (Nat → Nat → Int64) → (Nat → Nat → Option Nat) → Unit → hS → Prop) (a1 : Option Nat) (l2i : Int32) (n sl : Nat) (SH : Nat → Nat × Nat) (FI : Nat → Nat → Int32) (FL : Nat → Nat → Int64) (FR : Nat → Nat → Option Nat) : Unit → hS → Prop := (P_if (((8 : Int32)).toInt < (l2i).toInt) (P_ret () (n, sl, SH, FI, FL, FR)) (P_if ((FI 110 8).toInt = ((44 : Int32)).toInt) (P_bi (RX4_take  n sl SH FI FL FR) (fun v2 n2 sl2 SH2 FI2 FL2 FR2 => (P_bi (RX4_readRange (a1) (l2i) n2 sl2 SH2 FI2 FL2 FR2) (fun v3 n3 sl3 SH3 FI3 FL3 FR3 => (P_if ((l2i).toInt < ((8 : Int32)).toInt) (P_sm (a1) (fun c6 => (P_bi (RX4_readLocation  n3 sl3 SH3 FI3 FL3 FR3) (fun v6 n6 sl6 SH6 FI6 FL6 FR6 => (P_sm (FR3 c6 4) (fun c8 => P_and (p_in (l2i) (SH6 c8).2 ∧ ∃ v, v6 = some v) (RX4_readRows_59 K18 a1 (l2i) n6 sl6 SH6 FI6 FL6 (h_up FR6 c8 (l2i).toInt.toNat (v6))))))))) (RX4_readRows_59 K18 a1 (l2i) n3 sl3 SH3 FI3 FL3 FR3)))))) (P_ret () (n, sl, SH, FI, FL, FR))))
def GX4_readRows_18  (a1 : Option Nat) : Nat → Int32 → Nat → Nat → (Nat → Nat × Nat) → (Nat → Nat → Int32) → (Nat → Nat → Int64) → (Nat → Nat → Option Nat) → Unit → hS → Prop
  | 0, _, _, _, _, _, _, _ => fun _ _ => False
  | g + 1, l2i, n, sl, SH, FI, FL, FR => BX4_readRows_18  (GX4_readRows_18  a1 g) a1 l2i n sl SH FI FL FR
def RX4_readRows_18  (a1 : Option Nat) (l2i : Int32) (n sl : Nat) (SH : Nat → Nat × Nat) (FI : Nat → Nat → Int32) (FL : Nat → Nat → Int64) (FR : Nat → Nat → Option Nat) : Unit → hS → Prop := fun v s => ∃ g, GX4_readRows_18  a1 g l2i n sl SH FI FL FR v s
def RX4_readRows (a1 : Option Nat) (n sl : Nat) (SH : Nat → Nat × Nat) (FI : Nat → Nat → Int32) (FL : Nat → Nat → Int64) (FR : Nat → Nat → Option Nat) : Unit → hS → Prop := (P_bi (RX4_readRange (a1) ((0 : Int32)) n sl SH FI FL FR) (fun v0 n0 sl0 SH0 FI0 FL0 FR0 => (P_sm (a1) (fun c2 => (P_bi (RX4_readLocation  n0 sl0 SH0 FI0 FL0 FR0) (fun v2 n2 sl2 SH2 FI2 FL2 FR2 => (P_sm (FR0 c2 4) (fun c4 => P_and (p_in ((0 : Int32)) (SH2 c4).2 ∧ ∃ v, v2 = some v) (RX4_readRows_18  a1 ((1 : Int32)) n2 sl2 SH2 FI2 FL2 (h_up FR2 c4 0 (v2)))))))))))
def RX4_readDeclaration  (n sl : Nat) (SH : Nat → Nat × Nat) (FI : Nat → Nat → Int32) (FL : Nat → Nat → Int64) (FR : Nat → Nat → Option Nat) : Unit → hS → Prop := (P_bi (RX7_letters (FI 110 7) n sl SH FI FL FR) (fun v0 n0 sl0 SH0 FI0 FL0 FR0 => (P_if ((FI0 110 8).toInt = ((4 : Int32)).toInt) (P_bi (RX4_isKnown (v0) n0 sl0 SH0 FI0 FL0 FR0) (fun v2 n2 sl2 SH2 FI2 FL2 FR2 => (P_if ((v2).toInt = 0) (P_sm (FR2 110 2) (fun c5 => (P_if ((FI2 110 3).toInt < (Int32.ofNat (SH2 c5).2).toInt) (P_bi (P_nw 10 n2 sl2 SH2 FI2 FL2 FR2) (fun v6 n6 sl6 SH6 FI6 FL6 FR6 => (P_and (p_in (FI6 110 7) (SH6 114).2) (P_bi (RX10_init n2 (v0) (FI6 114 (FI6 110 7).toInt.toNat) n6 sl6 SH6 FI6 FL6 FR6) (fun v7 n7 sl7 SH7 FI7 FL7 FR7 => (P_sm (FR7 110 2) (fun c9 => P_and (p_in (FI7 110 3) (SH7 c9).2 ∧ ∃ v, some n2 = some v) (P_bi (RX4_take  n7 sl7 SH7 (h_up FI7 110 3 ((FI7 110 3) + ((1 : Int32)))) FL7 (h_up FR7 c9 (FI7 110 3).toInt.toNat (some n2))) (fun v10 n10 sl10 SH10 FI10 FL10 FR10 => (P_bi (RX4_expect ((61 : Int32)) n10 sl10 SH10 FI10 FL10 FR10) (fun v11 n11 sl11 SH11 FI11 FL11 FR11 => (P_if ((FI11 110 8).toInt = ((5 : Int32)).toInt) (P_bi (RX4_readRows (some n2) n11 sl11 SH11 FI11 FL11 FR11) (fun v13 n13 sl13 SH13 FI13 FL13 FR13 => (P_bi (RX4_expect ((59 : Int32)) n13 sl13 SH13 FI13 FL13 FR13) (fun v14 n14 sl14 SH14 FI14 FL14 FR14 => (P_ret () (n14, sl14, SH14, FI14, FL14, FR14)))))) (P_bi (RX4_readLocation  n11 sl11 SH11 FI11 FL11 FR11) (fun v15 n15 sl15 SH15 FI15 FL15 FR15 => (P_sm (FR11 n2 4) (fun c17 => P_and (p_in ((0 : Int32)) (SH15 c17).2 ∧ ∃ v, v15 = some v) (P_bi (RX4_expect ((59 : Int32)) n15 sl15 SH15 FI15 FL15 (h_up FR15 c17 0 (v15))) (fun v17 n17 sl17 SH17 FI17 FL17 FR17 => (P_ret () (n17, sl17, SH17, FI17, FL17, FR17)))))))))))))))))))) (P_bi (RX4_refuse ((6 : Int32)) n2 sl2 SH2 FI2 FL2 FR2) (fun v18 n18 sl18 SH18 FI18 FL18 FR18 => (P_ret () (n18, sl18, SH18, FI18, FL18, FR18))))))) (P_bi (RX4_refuse ((4 : Int32)) n2 sl2 SH2 FI2 FL2 FR2) (fun v19 n19 sl19 SH19 FI19 FL19 FR19 => (P_ret () (n19, sl19, SH19, FI19, FL19, FR19))))))) (P_bi (RX4_refuse ((1 : Int32)) n0 sl0 SH0 FI0 FL0 FR0) (fun v20 n20 sl20 SH20 FI20 FL20 FR20 => (P_ret () (n20, sl20, SH20, FI20, FL20, FR20)))))))
def RX4_begin (a1 : Option Nat) (a2 : Int32) (n sl : Nat) (SH : Nat → Nat × Nat) (FI : Nat → Nat → Int32) (FL : Nat → Nat → Int64) (FR : Nat → Nat → Option Nat) : Unit → hS → Prop := (P_bi (RX7_readAll (a1) (a2) n sl SH FI FL FR) (fun v0 n0 sl0 SH0 FI0 FL0 FR0 => (P_bi (P_na 4 (12) n0 sl0 SH0 FI0 FL0 FR0) (fun v1 n1 sl1 SH1 FI1 FL1 FR1 => (P_bi (RX4_take  n1 sl1 SH1 (h_up (h_up (h_up (h_up (h_up FI1 110 3 ((0 : Int32))) 110 4 ((0 : Int32))) 110 5 ((0 : Int32))) 110 6 ((-1 : Int32))) 110 7 ((-1 : Int32))) FL1 (h_up FR1 110 2 (some n0))) (fun v8 n8 sl8 SH8 FI8 FL8 FR8 => (P_ret () (n8, sl8, SH8, FI8, FL8, FR8))))))))
def RX0_put (a1 : Int32) (n sl : Nat) (SH : Nat → Nat × Nat) (FI : Nat → Nat → Int32) (FL : Nat → Nat → Int64) (FR : Nat → Nat → Option Nat) : Unit → hS → Prop := (P_if ((FI 119 1).toInt < (Int32.ofNat (SH 120).2).toInt) (P_and (p_in (FI 119 1) (SH 120).2) (P_ret () (n, sl, SH, (h_up (h_up FI 120 (FI 119 1).toInt.toNat ((a1) &&& ((255 : Int32)))) 119 1 ((FI 119 1) + ((1 : Int32)))), FL, FR))) (P_ret () (n, sl, SH, (h_up FI 119 1 ((FI 119 1) + ((1 : Int32)))), FL, FR)))
def BX0_putNumber_3 (K3 : Int32 → Nat → Nat → (Nat → Nat × Nat) → (Nat → Nat → Int32) → (Nat → Nat → Int64) → (Nat → Nat → Option Nat) → Unit → hS → Prop) (a1 : Int64) (a2 : Int32) (l4i : Int32) (n sl : Nat) (SH : Nat → Nat × Nat) (FI : Nat → Nat → Int32) (FL : Nat → Nat → Int64) (FR : Nat → Nat → Option Nat) : Unit → hS → Prop := (P_if ((l4i).toInt < (a2).toInt) (P_if ((l4i).toInt < ((8 : Int32)).toInt) (P_bi (RX0_put ((((a1).toUInt64 >>> ((((8 : Int32)) * (l4i)).toInt64.toUInt64 &&& Int64.toUInt64 63)).toInt64).toInt32) n sl SH FI FL FR) (fun v2 n2 sl2 SH2 FI2 FL2 FR2 => (K3 ((l4i) + (1 : Int32)) n2 sl2 SH2 FI2 FL2 FR2))) (P_ret () (n, sl, SH, FI, FL, FR))) (P_ret () (n, sl, SH, FI, FL, FR)))
def GX0_putNumber_3  (a1 : Int64) (a2 : Int32) : Nat → Int32 → Nat → Nat → (Nat → Nat × Nat) → (Nat → Nat → Int32) → (Nat → Nat → Int64) → (Nat → Nat → Option Nat) → Unit → hS → Prop
  | 0, _, _, _, _, _, _, _ => fun _ _ => False
  | g + 1, l4i, n, sl, SH, FI, FL, FR => BX0_putNumber_3  (GX0_putNumber_3  a1 a2 g) a1 a2 l4i n sl SH FI FL FR
def RX0_putNumber_3  (a1 : Int64) (a2 : Int32) (l4i : Int32) (n sl : Nat) (SH : Nat → Nat × Nat) (FI : Nat → Nat → Int32) (FL : Nat → Nat → Int64) (FR : Nat → Nat → Option Nat) : Unit → hS → Prop := fun v s => ∃ g, GX0_putNumber_3  a1 a2 g l4i n sl SH FI FL FR v s
def RX0_putNumber (a1 : Int64) (a2 : Int32) (n sl : Nat) (SH : Nat → Nat × Nat) (FI : Nat → Nat → Int32) (FL : Nat → Nat → Int64) (FR : Nat → Nat → Option Nat) : Unit → hS → Prop := (RX0_putNumber_3  a1 a2 ((0 : Int32)) n sl SH FI FL FR)
def RX0_putLeb_26 (K5 : Int64 → Int32 → Nat → Nat → (Nat → Nat × Nat) → (Nat → Nat → Int32) → (Nat → Nat → Int64) → (Nat → Nat → Option Nat) → Unit → hS → Prop) (a1 : Int64) (l3l : Int64) (l5i : Int32) (n sl : Nat) (SH : Nat → Nat × Nat) (FI : Nat → Nat → Int32) (FL : Nat → Nat → Int64) (FR : Nat → Nat → Option Nat) : Unit → hS → Prop := (P_bi (RX0_put ((((l3l) &&& ((127 : Int64))).toInt32) ||| ((128 : Int32))) n sl SH FI FL FR) (fun v0 n0 sl0 SH0 FI0 FL0 FR0 => (K5 (((l3l).toUInt64 >>> (((7 : Int32)).toInt64.toUInt64 &&& Int64.toUInt64 63)).toInt64) ((l5i) + (1 : Int32)) n0 sl0 SH0 FI0 FL0 FR0)))
def BX0_putLeb_5 (K5 : Int64 → Int32 → Nat → Nat → (Nat → Nat × Nat) → (Nat → Nat → Int32) → (Nat → Nat → Int64) → (Nat → Nat → Option Nat) → Unit → hS → Prop) (a1 : Int64) (l3l : Int64) (l5i : Int32) (n sl : Nat) (SH : Nat → Nat × Nat) (FI : Nat → Nat → Int32) (FL : Nat → Nat → Int64) (FR : Nat → Nat → Option Nat) : Unit → hS → Prop := (P_if ((l5i).toInt < ((9 : Int32)).toInt) (P_if ((l3l).toInt < ((0 : Int64)).toInt) (RX0_putLeb_26 K5 a1 (l3l) (l5i) n sl SH FI FL FR) (P_if (((127 : Int64)).toInt < (l3l).toInt) (RX0_putLeb_26 K5 a1 (l3l) (l5i) n sl SH FI FL FR) (P_bi (RX0_put ((l3l).toInt32) n sl SH FI FL FR) (fun v3 n3 sl3 SH3 FI3 FL3 FR3 => (P_ret () (n3, sl3, SH3, FI3, FL3, FR3)))))) (P_bi (RX0_put ((l3l).toInt32) n sl SH FI FL FR) (fun v4 n4 sl4 SH4 FI4 FL4 FR4 => (P_ret () (n4, sl4, SH4, FI4, FL4, FR4)))))
def GX0_putLeb_5  (a1 : Int64) : Nat → Int64 → Int32 → Nat → Nat → (Nat → Nat × Nat) → (Nat → Nat → Int32) → (Nat → Nat → Int64) → (Nat → Nat → Option Nat) → Unit → hS → Prop
  | 0, _, _, _, _, _, _, _, _ => fun _ _ => False
  | g + 1, l3l, l5i, n, sl, SH, FI, FL, FR => BX0_putLeb_5  (GX0_putLeb_5  a1 g) a1 l3l l5i n sl SH FI FL FR
def RX0_putLeb_5  (a1 : Int64) (l3l : Int64) (l5i : Int32) (n sl : Nat) (SH : Nat → Nat × Nat) (FI : Nat → Nat → Int32) (FL : Nat → Nat → Int64) (FR : Nat → Nat → Option Nat) : Unit → hS → Prop := fun v s => ∃ g, GX0_putLeb_5  a1 g l3l l5i n sl SH FI FL FR v s
def RX0_putLeb (a1 : Int64) (n sl : Nat) (SH : Nat → Nat × Nat) (FI : Nat → Nat → Int32) (FL : Nat → Nat → Int64) (FR : Nat → Nat → Option Nat) : Unit → hS → Prop := (RX0_putLeb_5  a1 (a1) ((0 : Int32)) n sl SH FI FL FR)
def RX0_putSignedLeb_28 (K5 : Int64 → Int32 → Nat → Nat → (Nat → Nat × Nat) → (Nat → Nat → Int32) → (Nat → Nat → Int64) → (Nat → Nat → Option Nat) → Unit → hS → Prop) (a1 : Int64) (l3l : Int64) (l5i : Int32) (n sl : Nat) (SH : Nat → Nat × Nat) (FI : Nat → Nat → Int32) (FL : Nat → Nat → Int64) (FR : Nat → Nat → Option Nat) : Unit → hS → Prop := (P_bi (RX0_put ((((l3l) &&& ((127 : Int64))).toInt32) ||| ((128 : Int32))) n sl SH FI FL FR) (fun v0 n0 sl0 SH0 FI0 FL0 FR0 => (K5 ((l3l) >>> (((7 : Int32)).toInt64 &&& 63)) ((l5i) + (1 : Int32)) n0 sl0 SH0 FI0 FL0 FR0)))
def BX0_putSignedLeb_5 (K5 : Int64 → Int32 → Nat → Nat → (Nat → Nat × Nat) → (Nat → Nat → Int32) → (Nat → Nat → Int64) → (Nat → Nat → Option Nat) → Unit → hS → Prop) (a1 : Int64) (l3l : Int64) (l5i : Int32) (n sl : Nat) (SH : Nat → Nat × Nat) (FI : Nat → Nat → Int32) (FL : Nat → Nat → Int64) (FR : Nat → Nat → Option Nat) : Unit → hS → Prop := (P_if ((l5i).toInt < ((9 : Int32)).toInt) (P_if ((l3l).toInt < ((-64 : Int64)).toInt) (RX0_putSignedLeb_28 K5 a1 (l3l) (l5i) n sl SH FI FL FR) (P_if (((63 : Int64)).toInt < (l3l).toInt) (RX0_putSignedLeb_28 K5 a1 (l3l) (l5i) n sl SH FI FL FR) (P_bi (RX0_put (((l3l) &&& ((127 : Int64))).toInt32) n sl SH FI FL FR) (fun v3 n3 sl3 SH3 FI3 FL3 FR3 => (P_ret () (n3, sl3, SH3, FI3, FL3, FR3)))))) (P_bi (RX0_put (((l3l) &&& ((127 : Int64))).toInt32) n sl SH FI FL FR) (fun v4 n4 sl4 SH4 FI4 FL4 FR4 => (P_ret () (n4, sl4, SH4, FI4, FL4, FR4)))))
def GX0_putSignedLeb_5  (a1 : Int64) : Nat → Int64 → Int32 → Nat → Nat → (Nat → Nat × Nat) → (Nat → Nat → Int32) → (Nat → Nat → Int64) → (Nat → Nat → Option Nat) → Unit → hS → Prop
  | 0, _, _, _, _, _, _, _, _ => fun _ _ => False
  | g + 1, l3l, l5i, n, sl, SH, FI, FL, FR => BX0_putSignedLeb_5  (GX0_putSignedLeb_5  a1 g) a1 l3l l5i n sl SH FI FL FR
def RX0_putSignedLeb_5  (a1 : Int64) (l3l : Int64) (l5i : Int32) (n sl : Nat) (SH : Nat → Nat × Nat) (FI : Nat → Nat → Int32) (FL : Nat → Nat → Int64) (FR : Nat → Nat → Option Nat) : Unit → hS → Prop := fun v s => ∃ g, GX0_putSignedLeb_5  a1 g l3l l5i n sl SH FI FL FR v s
def RX0_putSignedLeb (a1 : Int64) (n sl : Nat) (SH : Nat → Nat × Nat) (FI : Nat → Nat → Int32) (FL : Nat → Nat → Int64) (FR : Nat → Nat → Option Nat) : Unit → hS → Prop := (RX0_putSignedLeb_5  a1 (a1) ((0 : Int32)) n sl SH FI FL FR)
def RX0_patch (a1 : Int32) (a2 : Int32) (n sl : Nat) (SH : Nat → Nat × Nat) (FI : Nat → Nat → Int32) (FL : Nat → Nat → Int64) (FR : Nat → Nat → Option Nat) : Unit → hS → Prop := (P_if ((a1).toInt < 0) (P_ret () (n, sl, SH, FI, FL, FR)) (P_if (((a1) + ((1 : Int32))).toInt < (Int32.ofNat (SH 120).2).toInt) (P_and (p_in (a1) (SH 120).2) (P_and (p_in ((a1) + ((1 : Int32))) (SH 120).2) (P_ret () (n, sl, SH, (h_up (h_up FI 120 (a1).toInt.toNat ((a2) &&& ((255 : Int32)))) 120 ((a1) + ((1 : Int32))).toInt.toNat ((((a2).toUInt32 >>> (((8 : Int32)).toUInt32 &&& Int32.toUInt32 31)).toInt32) &&& ((255 : Int32)))), FL, FR)))) (P_ret () (n, sl, SH, FI, FL, FR))))
def RX0_putConstant (a1 : Int64) (n sl : Nat) (SH : Nat → Nat × Nat) (FI : Nat → Nat → Int32) (FL : Nat → Nat → Int64) (FR : Nat → Nat → Option Nat) : Unit → hS → Prop := (P_if (((31 : Int64)).toInt < (a1).toInt) (P_if (((255 : Int64)).toInt < (a1).toInt) (P_if (((65535 : Int64)).toInt < (a1).toInt) (P_if (((4294967295 : Int64)).toInt < (a1).toInt) (P_bi (RX0_put ((14 : Int32)) n sl SH FI FL FR) (fun v4 n4 sl4 SH4 FI4 FL4 FR4 => (P_bi (RX0_putNumber (a1) ((8 : Int32)) n4 sl4 SH4 FI4 FL4 FR4) (fun v5 n5 sl5 SH5 FI5 FL5 FR5 => (P_ret () (n5, sl5, SH5, FI5, FL5, FR5)))))) (P_bi (RX0_put ((12 : Int32)) n sl SH FI FL FR) (fun v6 n6 sl6 SH6 FI6 FL6 FR6 => (P_bi (RX0_putNumber (a1) ((4 : Int32)) n6 sl6 SH6 FI6 FL6 FR6) (fun v7 n7 sl7 SH7 FI7 FL7 FR7 => (P_ret () (n7, sl7, SH7, FI7, FL7, FR7))))))) (P_bi (RX0_put ((10 : Int32)) n sl SH FI FL FR) (fun v8 n8 sl8 SH8 FI8 FL8 FR8 => (P_bi (RX0_putNumber (a1) ((2 : Int32)) n8 sl8 SH8 FI8 FL8 FR8) (fun v9 n9 sl9 SH9 FI9 FL9 FR9 => (P_ret () (n9, sl9, SH9, FI9, FL9, FR9))))))) (P_bi (RX0_put ((8 : Int32)) n sl SH FI FL FR) (fun v10 n10 sl10 SH10 FI10 FL10 FR10 => (P_bi (RX0_putNumber (a1) ((1 : Int32)) n10 sl10 SH10 FI10 FL10 FR10) (fun v11 n11 sl11 SH11 FI11 FL11 FR11 => (P_ret () (n11, sl11, SH11, FI11, FL11, FR11))))))) (P_bi (RX0_put (((48 : Int32)) + ((a1).toInt32)) n sl SH FI FL FR) (fun v12 n12 sl12 SH12 FI12 FL12 FR12 => (P_ret () (n12, sl12, SH12, FI12, FL12, FR12)))))
def RX0_putBased (a1 : Option Nat) (a2 : Int64) (n sl : Nat) (SH : Nat → Nat × Nat) (FI : Nat → Nat → Int32) (FL : Nat → Nat → Int64) (FR : Nat → Nat → Option Nat) : Unit → hS → Prop := (P_sm (a1) (fun c1 => (P_if ((FI c1 0).toInt = ((37 : Int32)).toInt) (P_sm (a1) (fun c3 => (P_bi (RX0_put (((112 : Int32)) + ((FL c3 1).toInt32)) n sl SH FI FL FR) (fun v3 n3 sl3 SH3 FI3 FL3 FR3 => (P_bi (RX0_putSignedLeb (a2) n3 sl3 SH3 FI3 FL3 FR3) (fun v4 n4 sl4 SH4 FI4 FL4 FR4 => (P_ret () (n4, sl4, SH4, FI4, FL4, FR4)))))))) (P_bi (RX0_put ((145 : Int32)) n sl SH FI FL FR) (fun v5 n5 sl5 SH5 FI5 FL5 FR5 => (P_bi (RX0_putSignedLeb (a2) n5 sl5 SH5 FI5 FL5 FR5) (fun v6 n6 sl6 SH6 FI6 FL6 FR6 => (P_ret () (n6, sl6, SH6, FI6, FL6, FR6)))))))))
def RX0_putUnary (a1 : Option Nat) (n sl : Nat) (SH : Nat → Nat × Nat) (FI : Nat → Nat → Int32) (FL : Nat → Nat → Int64) (FR : Nat → Nat → Option Nat) : Unit → hS → Prop := (P_sm (a1) (fun c1 => (P_if ((FI c1 0).toInt = 6) (P_sm (a1) (fun c3 => (P_if ((FL c3 1).toInt = ((8 : Int64)).toInt) (P_bi (RX0_put ((6 : Int32)) n sl SH FI FL FR) (fun v4 n4 sl4 SH4 FI4 FL4 FR4 => (P_ret () (n4, sl4, SH4, FI4, FL4, FR4)))) (P_bi (RX0_put ((148 : Int32)) n sl SH FI FL FR) (fun v5 n5 sl5 SH5 FI5 FL5 FR5 => (P_sm (a1) (fun c7 => (P_bi (RX0_put ((FL5 c7 1).toInt32) n5 sl5 SH5 FI5 FL5 FR5) (fun v7 n7 sl7 SH7 FI7 FL7 FR7 => (P_ret () (n7, sl7, SH7, FI7, FL7, FR7))))))))))) (P_if ((FI c1 0).toInt = 14) (P_bi (RX0_put ((155 : Int32)) n sl SH FI FL FR) (fun v9 n9 sl9 SH9 FI9 FL9 FR9 => (P_ret () (n9, sl9, SH9, FI9, FL9, FR9)))) (P_if ((FI c1 0).toInt = 45) (P_bi (RX0_put ((31 : Int32)) n sl SH FI FL FR) (fun v11 n11 sl11 SH11 FI11 FL11 FR11 => (P_ret () (n11, sl11, SH11, FI11, FL11, FR11)))) (P_if ((FI c1 0).toInt = 126) (P_bi (RX0_put ((32 : Int32)) n sl SH FI FL FR) (fun v13 n13 sl13 SH13 FI13 FL13 FR13 => (P_ret () (n13, sl13, SH13, FI13, FL13, FR13)))) (P_ret () (n, sl, SH, FI, FL, FR))))))))
def BX0_putBlock_21 (K21 : Int32 → Nat → Nat → (Nat → Nat × Nat) → (Nat → Nat → Int32) → (Nat → Nat → Int64) → (Nat → Nat → Option Nat) → Unit → hS → Prop) (a1 : Option Nat) (l2i : Int32) (n sl : Nat) (SH : Nat → Nat × Nat) (FI : Nat → Nat → Int32) (FL : Nat → Nat → Int64) (FR : Nat → Nat → Option Nat) : Unit → hS → Prop := (P_sm (a1) (fun c1 => (P_if ((l2i).toInt < (Int32.ofNat (SH c1).2).toInt) (P_sm (a1) (fun c3 => P_and (p_in (l2i) (SH c3).2) (P_bi (RX0_put (FI c3 (l2i).toInt.toNat) n sl SH FI FL FR) (fun v3 n3 sl3 SH3 FI3 FL3 FR3 => (K21 ((l2i) + (1 : Int32)) n3 sl3 SH3 FI3 FL3 FR3))))) (P_ret () (n, sl, SH, FI, FL, FR)))))
def GX0_putBlock_21  (a1 : Option Nat) : Nat → Int32 → Nat → Nat → (Nat → Nat × Nat) → (Nat → Nat → Int32) → (Nat → Nat → Int64) → (Nat → Nat → Option Nat) → Unit → hS → Prop
  | 0, _, _, _, _, _, _, _ => fun _ _ => False
  | g + 1, l2i, n, sl, SH, FI, FL, FR => BX0_putBlock_21  (GX0_putBlock_21  a1 g) a1 l2i n sl SH FI FL FR
def RX0_putBlock_21  (a1 : Option Nat) (l2i : Int32) (n sl : Nat) (SH : Nat → Nat × Nat) (FI : Nat → Nat → Int32) (FL : Nat → Nat → Int64) (FR : Nat → Nat → Option Nat) : Unit → hS → Prop := fun v s => ∃ g, GX0_putBlock_21  a1 g l2i n sl SH FI FL FR v s
def RX0_putBlock (a1 : Option Nat) (n sl : Nat) (SH : Nat → Nat × Nat) (FI : Nat → Nat → Int32) (FL : Nat → Nat → Int64) (FR : Nat → Nat → Option Nat) : Unit → hS → Prop := (P_if (a1 = none) (P_ret () (n, sl, SH, FI, FL, FR)) (P_bi (RX0_put ((158 : Int32)) n sl SH FI FL FR) (fun v1 n1 sl1 SH1 FI1 FL1 FR1 => (P_sm (a1) (fun c3 => (P_bi (RX0_putLeb ((Int32.ofNat (SH1 c3).2).toInt64) n1 sl1 SH1 FI1 FL1 FR1) (fun v3 n3 sl3 SH3 FI3 FL3 FR3 => (RX0_putBlock_21  a1 ((0 : Int32)) n3 sl3 SH3 FI3 FL3 FR3))))))))
def RX0_isBased (a1 : Option Nat) (n sl : Nat) (SH : Nat → Nat × Nat) (FI : Nat → Nat → Int32) (FL : Nat → Nat → Int64) (FR : Nat → Nat → Option Nat) : Int32 → hS → Prop := (P_sm (a1) (fun c1 => (P_if ((FI c1 0).toInt = ((37 : Int32)).toInt) (P_ret ((1 : Int32)) (n, sl, SH, FI, FL, FR)) (P_sm (a1) (fun c3 => (P_if ((FI c3 0).toInt = ((11 : Int32)).toInt) (P_ret ((1 : Int32)) (n, sl, SH, FI, FL, FR)) (P_ret ((0 : Int32)) (n, sl, SH, FI, FL, FR))))))))
def RX0_isPlainTerm (a1 : Option Nat) (n sl : Nat) (SH : Nat → Nat × Nat) (FI : Nat → Nat → Int32) (FL : Nat → Nat → Int64) (FR : Nat → Nat → Option Nat) : Int32 → hS → Prop := (P_if (a1 = none) (P_ret ((0 : Int32)) (n, sl, SH, FI, FL, FR)) (P_sm (a1) (fun c2 => (P_if ((FI c2 0).toInt = ((5 : Int32)).toInt) (P_sm (a1) (fun c4 => (P_if ((FI c4 2).toInt = ((43 : Int32)).toInt) (P_ret ((1 : Int32)) (n, sl, SH, FI, FL, FR)) (P_sm (a1) (fun c6 => (P_if ((FI c6 2).toInt = ((45 : Int32)).toInt) (P_ret ((1 : Int32)) (n, sl, SH, FI, FL, FR)) (P_ret ((0 : Int32)) (n, sl, SH, FI, FL, FR)))))))) (P_ret ((0 : Int32)) (n, sl, SH, FI, FL, FR))))))
def RX0_putNode (MX0_putNode : Option Nat → Int32 → Nat → Nat → (Nat → Nat × Nat) → (Nat → Nat → Int32) → (Nat → Nat → Int64) → (Nat → Nat → Option Nat) → Unit → hS → Prop) (MX0_putChoice : Option Nat → Int32 → Nat → Nat → (Nat → Nat × Nat) → (Nat → Nat → Int32) → (Nat → Nat → Int64) → (Nat → Nat → Option Nat) → Unit → hS → Prop) (MX0_putChain : Option Nat → Int32 → Nat → Nat → (Nat → Nat × Nat) → (Nat → Nat → Int32) → (Nat → Nat → Int64) → (Nat → Nat → Option Nat) → Unit → hS → Prop) (a1 : Option Nat) (a2 : Int32) (n sl : Nat) (SH : Nat → Nat × Nat) (FI : Nat → Nat → Int32) (FL : Nat → Nat → Int64) (FR : Nat → Nat → Option Nat) : Unit → hS → Prop := (P_if (a1 = none) (P_ret () (n, sl, SH, FI, FL, FR)) (P_if (((120 : Int32)).toInt < (a2).toInt) (P_ret () (n, sl, SH, FI, FL, FR)) (P_sm (a1) (fun c3 => (P_if ((FI c3 0).toInt = 5) (P_sm (a1) (fun c5 => (P_bi (RX0_putConstant (FL c5 1) n sl SH FI FL FR) (fun v5 n5 sl5 SH5 FI5 FL5 FR5 => (P_ret () (n5, sl5, SH5, FI5, FL5, FR5)))))) (P_if ((FI c3 0).toInt = 11 ∨ (FI c3 0).toInt = 37) (P_bi (RX0_putBased (a1) ((0 : Int64)) n sl SH FI FL FR) (fun v7 n7 sl7 SH7 FI7 FL7 FR7 => (P_ret () (n7, sl7, SH7, FI7, FL7, FR7)))) (P_if ((FI c3 0).toInt = 12) (P_bi (RX0_put ((156 : Int32)) n sl SH FI FL FR) (fun v9 n9 sl9 SH9 FI9 FL9 FR9 => (P_ret () (n9, sl9, SH9, FI9, FL9, FR9)))) (P_if ((FI c3 0).toInt = 13) (P_bi (RX0_put ((151 : Int32)) n sl SH FI FL FR) (fun v11 n11 sl11 SH11 FI11 FL11 FR11 => (P_ret () (n11, sl11, SH11, FI11, FL11, FR11)))) (P_if ((FI c3 0).toInt = 25) (P_bi (MX0_putChain (a1) (a2) n sl SH FI FL FR) (fun v13 n13 sl13 SH13 FI13 FL13 FR13 => (P_ret () (n13, sl13, SH13, FI13, FL13, FR13)))) (P_if ((FI c3 0).toInt = 63) (P_bi (MX0_putChoice (a1) (a2) n sl SH FI FL FR) (fun v15 n15 sl15 SH15 FI15 FL15 FR15 => (P_ret () (n15, sl15, SH15, FI15, FL15, FR15)))) (P_sm (a1) (fun c17 => (P_bi (MX0_putNode (FR c17 3) ((a2) + ((1 : Int32))) n sl SH FI FL FR) (fun v17 n17 sl17 SH17 FI17 FL17 FR17 => (P_bi (RX0_putUnary (a1) n17 sl17 SH17 FI17 FL17 FR17) (fun v18 n18 sl18 SH18 FI18 FL18 FR18 => (P_ret () (n18, sl18, SH18, FI18, FL18, FR18))))))))))))))))))
def RX0_putChoice (MX0_putNode : Option Nat → Int32 → Nat → Nat → (Nat → Nat × Nat) → (Nat → Nat → Int32) → (Nat → Nat → Int64) → (Nat → Nat → Option Nat) → Unit → hS → Prop) (MX0_putChoice : Option Nat → Int32 → Nat → Nat → (Nat → Nat × Nat) → (Nat → Nat → Int32) → (Nat → Nat → Int64) → (Nat → Nat → Option Nat) → Unit → hS → Prop) (MX0_putChain : Option Nat → Int32 → Nat → Nat → (Nat → Nat × Nat) → (Nat → Nat → Int32) → (Nat → Nat → Int64) → (Nat → Nat → Option Nat) → Unit → hS → Prop) (a1 : Option Nat) (a2 : Int32) (n sl : Nat) (SH : Nat → Nat × Nat) (FI : Nat → Nat → Int32) (FL : Nat → Nat → Int64) (FR : Nat → Nat → Option Nat) : Unit → hS → Prop := (P_sm (a1) (fun c1 => (P_bi (MX0_putNode (FR c1 3) ((a2) + ((1 : Int32))) n sl SH FI FL FR) (fun v1 n1 sl1 SH1 FI1 FL1 FR1 => (P_bi (RX0_put ((40 : Int32)) n1 sl1 SH1 FI1 FL1 FR1) (fun v2 n2 sl2 SH2 FI2 FL2 FR2 => (P_bi (RX0_putNumber ((0 : Int64)) ((2 : Int32)) n2 sl2 SH2 FI2 FL2 FR2) (fun v3 n3 sl3 SH3 FI3 FL3 FR3 => (P_sm (a1) (fun c5 => (P_bi (MX0_putNode (FR3 c5 5) ((a2) + ((1 : Int32))) n3 sl3 SH3 FI3 FL3 FR3) (fun v5 n5 sl5 SH5 FI5 FL5 FR5 => (P_bi (RX0_put ((47 : Int32)) n5 sl5 SH5 FI5 FL5 FR5) (fun v6 n6 sl6 SH6 FI6 FL6 FR6 => (P_bi (RX0_putNumber ((0 : Int64)) ((2 : Int32)) n6 sl6 SH6 FI6 FL6 FR6) (fun v7 n7 sl7 SH7 FI7 FL7 FR7 => (P_bi (RX0_patch (FI2 119 1) (((FI7 119 1) - (FI2 119 1)) - ((2 : Int32))) n7 sl7 SH7 FI7 FL7 FR7) (fun v8 n8 sl8 SH8 FI8 FL8 FR8 => (P_sm (a1) (fun c10 => (P_bi (MX0_putNode (FR8 c10 4) ((a2) + ((1 : Int32))) n8 sl8 SH8 FI8 FL8 FR8) (fun v10 n10 sl10 SH10 FI10 FL10 FR10 => (P_bi (RX0_patch (FI6 119 1) (((FI10 119 1) - (FI6 119 1)) - ((2 : Int32))) n10 sl10 SH10 FI10 FL10 FR10) (fun v11 n11 sl11 SH11 FI11 FL11 FR11 => (P_ret () (n11, sl11, SH11, FI11, FL11, FR11))))))))))))))))))))))))))
def RX0_putChain_145 (K82 : Option Nat → Nat → Nat → (Nat → Nat × Nat) → (Nat → Nat → Int32) → (Nat → Nat → Int64) → (Nat → Nat → Option Nat) → Unit → hS → Prop) (MX0_putNode : Option Nat → Int32 → Nat → Nat → (Nat → Nat × Nat) → (Nat → Nat → Int32) → (Nat → Nat → Int64) → (Nat → Nat → Option Nat) → Unit → hS → Prop) (MX0_putChoice : Option Nat → Int32 → Nat → Nat → (Nat → Nat × Nat) → (Nat → Nat → Int32) → (Nat → Nat → Int64) → (Nat → Nat → Option Nat) → Unit → hS → Prop) (MX0_putChain : Option Nat → Int32 → Nat → Nat → (Nat → Nat × Nat) → (Nat → Nat → Int32) → (Nat → Nat → Int64) → (Nat → Nat → Option Nat) → Unit → hS → Prop) (a1 : Option Nat) (a2 : Int32) (l5o : Option Nat) (n sl : Nat) (SH : Nat → Nat × Nat) (FI : Nat → Nat → Int32) (FL : Nat → Nat → Int64) (FR : Nat → Nat → Option Nat) : Unit → hS → Prop := (P_sm (l5o) (fun c1 => (K82 (FR c1 6) n sl SH FI FL FR)))
def RX0_putChain_124 (K82 : Option Nat → Nat → Nat → (Nat → Nat × Nat) → (Nat → Nat → Int32) → (Nat → Nat → Int64) → (Nat → Nat → Option Nat) → Unit → hS → Prop) (MX0_putNode : Option Nat → Int32 → Nat → Nat → (Nat → Nat × Nat) → (Nat → Nat → Int32) → (Nat → Nat → Int64) → (Nat → Nat → Option Nat) → Unit → hS → Prop) (MX0_putChoice : Option Nat → Int32 → Nat → Nat → (Nat → Nat × Nat) → (Nat → Nat → Int32) → (Nat → Nat → Int64) → (Nat → Nat → Option Nat) → Unit → hS → Prop) (MX0_putChain : Option Nat → Int32 → Nat → Nat → (Nat → Nat × Nat) → (Nat → Nat → Int32) → (Nat → Nat → Int64) → (Nat → Nat → Option Nat) → Unit → hS → Prop) (a1 : Option Nat) (a2 : Int32) (l5o : Option Nat) (n sl : Nat) (SH : Nat → Nat × Nat) (FI : Nat → Nat → Int32) (FL : Nat → Nat → Int64) (FR : Nat → Nat → Option Nat) : Unit → hS → Prop := (P_bi (MX0_putNode (l5o) ((a2) + ((1 : Int32))) n sl SH FI FL FR) (fun v0 n0 sl0 SH0 FI0 FL0 FR0 => (P_sm (l5o) (fun c2 => (P_bi (RX0_put (fX4_operationOf (FI0 c2 2) SH0 FI0 FL0 FR0) n0 sl0 SH0 FI0 FL0 FR0) (fun v3 n3 sl3 SH3 FI3 FL3 FR3 => (RX0_putChain_145 K82 MX0_putNode MX0_putChoice MX0_putChain a1 a2 (l5o) n3 sl3 SH3 FI3 FL3 FR3)))))))
def BX0_putChain_82 (K82 : Option Nat → Nat → Nat → (Nat → Nat × Nat) → (Nat → Nat → Int32) → (Nat → Nat → Int64) → (Nat → Nat → Option Nat) → Unit → hS → Prop) (MX0_putNode : Option Nat → Int32 → Nat → Nat → (Nat → Nat × Nat) → (Nat → Nat → Int32) → (Nat → Nat → Int64) → (Nat → Nat → Option Nat) → Unit → hS → Prop) (MX0_putChoice : Option Nat → Int32 → Nat → Nat → (Nat → Nat × Nat) → (Nat → Nat → Int32) → (Nat → Nat → Int64) → (Nat → Nat → Option Nat) → Unit → hS → Prop) (MX0_putChain : Option Nat → Int32 → Nat → Nat → (Nat → Nat × Nat) → (Nat → Nat → Int32) → (Nat → Nat → Int64) → (Nat → Nat → Option Nat) → Unit → hS → Prop) (a1 : Option Nat) (a2 : Int32) (l5o : Option Nat) (n sl : Nat) (SH : Nat → Nat × Nat) (FI : Nat → Nat → Int32) (FL : Nat → Nat → Int64) (FR : Nat → Nat → Option Nat) : Unit → hS → Prop := (P_if (l5o = none) (P_ret () (n, sl, SH, FI, FL, FR)) (P_sm (l5o) (fun c2 => (P_if ((FI c2 2).toInt = ((43 : Int32)).toInt) (P_sm (l5o) (fun c4 => (P_if ((FI c4 0).toInt = ((5 : Int32)).toInt) (P_bi (RX0_put ((35 : Int32)) n sl SH FI FL FR) (fun v5 n5 sl5 SH5 FI5 FL5 FR5 => (P_sm (l5o) (fun c7 => (P_bi (RX0_putLeb (FL5 c7 1) n5 sl5 SH5 FI5 FL5 FR5) (fun v7 n7 sl7 SH7 FI7 FL7 FR7 => (RX0_putChain_145 K82 MX0_putNode MX0_putChoice MX0_putChain a1 a2 (l5o) n7 sl7 SH7 FI7 FL7 FR7))))))) (RX0_putChain_124 K82 MX0_putNode MX0_putChoice MX0_putChain a1 a2 (l5o) n sl SH FI FL FR)))) (RX0_putChain_124 K82 MX0_putNode MX0_putChoice MX0_putChain a1 a2 (l5o) n sl SH FI FL FR)))))
def GX0_putChain_82  (MX0_putNode : Option Nat → Int32 → Nat → Nat → (Nat → Nat × Nat) → (Nat → Nat → Int32) → (Nat → Nat → Int64) → (Nat → Nat → Option Nat) → Unit → hS → Prop) (MX0_putChoice : Option Nat → Int32 → Nat → Nat → (Nat → Nat × Nat) → (Nat → Nat → Int32) → (Nat → Nat → Int64) → (Nat → Nat → Option Nat) → Unit → hS → Prop) (MX0_putChain : Option Nat → Int32 → Nat → Nat → (Nat → Nat × Nat) → (Nat → Nat → Int32) → (Nat → Nat → Int64) → (Nat → Nat → Option Nat) → Unit → hS → Prop) (a1 : Option Nat) (a2 : Int32) : Nat → Option Nat → Nat → Nat → (Nat → Nat × Nat) → (Nat → Nat → Int32) → (Nat → Nat → Int64) → (Nat → Nat → Option Nat) → Unit → hS → Prop
  | 0, _, _, _, _, _, _, _ => fun _ _ => False
  | g + 1, l5o, n, sl, SH, FI, FL, FR => BX0_putChain_82  (GX0_putChain_82  MX0_putNode MX0_putChoice MX0_putChain a1 a2 g) MX0_putNode MX0_putChoice MX0_putChain a1 a2 l5o n sl SH FI FL FR
def RX0_putChain_82  (MX0_putNode : Option Nat → Int32 → Nat → Nat → (Nat → Nat × Nat) → (Nat → Nat → Int32) → (Nat → Nat → Int64) → (Nat → Nat → Option Nat) → Unit → hS → Prop) (MX0_putChoice : Option Nat → Int32 → Nat → Nat → (Nat → Nat × Nat) → (Nat → Nat → Int32) → (Nat → Nat → Int64) → (Nat → Nat → Option Nat) → Unit → hS → Prop) (MX0_putChain : Option Nat → Int32 → Nat → Nat → (Nat → Nat × Nat) → (Nat → Nat → Int32) → (Nat → Nat → Int64) → (Nat → Nat → Option Nat) → Unit → hS → Prop) (a1 : Option Nat) (a2 : Int32) (l5o : Option Nat) (n sl : Nat) (SH : Nat → Nat × Nat) (FI : Nat → Nat → Int32) (FL : Nat → Nat → Int64) (FR : Nat → Nat → Option Nat) : Unit → hS → Prop := fun v s => ∃ g, GX0_putChain_82  MX0_putNode MX0_putChoice MX0_putChain a1 a2 g l5o n sl SH FI FL FR v s
def RX0_putChain_78  (MX0_putNode : Option Nat → Int32 → Nat → Nat → (Nat → Nat × Nat) → (Nat → Nat → Int32) → (Nat → Nat → Int64) → (Nat → Nat → Option Nat) → Unit → hS → Prop) (MX0_putChoice : Option Nat → Int32 → Nat → Nat → (Nat → Nat × Nat) → (Nat → Nat → Int32) → (Nat → Nat → Int64) → (Nat → Nat → Option Nat) → Unit → hS → Prop) (MX0_putChain : Option Nat → Int32 → Nat → Nat → (Nat → Nat × Nat) → (Nat → Nat → Int32) → (Nat → Nat → Int64) → (Nat → Nat → Option Nat) → Unit → hS → Prop) (a1 : Option Nat) (a2 : Int32) (l4o : Option Nat) (n sl : Nat) (SH : Nat → Nat × Nat) (FI : Nat → Nat → Int32) (FL : Nat → Nat → Int64) (FR : Nat → Nat → Option Nat) : Unit → hS → Prop := (RX0_putChain_82  MX0_putNode MX0_putChoice MX0_putChain a1 a2 (l4o) n sl SH FI FL FR)
def RX0_putChain_70  (MX0_putNode : Option Nat → Int32 → Nat → Nat → (Nat → Nat × Nat) → (Nat → Nat → Int32) → (Nat → Nat → Int64) → (Nat → Nat → Option Nat) → Unit → hS → Prop) (MX0_putChoice : Option Nat → Int32 → Nat → Nat → (Nat → Nat × Nat) → (Nat → Nat → Int32) → (Nat → Nat → Int64) → (Nat → Nat → Option Nat) → Unit → hS → Prop) (MX0_putChain : Option Nat → Int32 → Nat → Nat → (Nat → Nat × Nat) → (Nat → Nat → Int32) → (Nat → Nat → Int64) → (Nat → Nat → Option Nat) → Unit → hS → Prop) (a1 : Option Nat) (a2 : Int32) (l3o : Option Nat) (l4o : Option Nat) (n sl : Nat) (SH : Nat → Nat × Nat) (FI : Nat → Nat → Int32) (FL : Nat → Nat → Int64) (FR : Nat → Nat → Option Nat) : Unit → hS → Prop := (P_bi (MX0_putNode (l3o) ((a2) + ((1 : Int32))) n sl SH FI FL FR) (fun v0 n0 sl0 SH0 FI0 FL0 FR0 => (RX0_putChain_78  MX0_putNode MX0_putChoice MX0_putChain a1 a2 (l4o) n0 sl0 SH0 FI0 FL0 FR0)))
def RX0_putChain_57  (MX0_putNode : Option Nat → Int32 → Nat → Nat → (Nat → Nat × Nat) → (Nat → Nat → Int32) → (Nat → Nat → Int64) → (Nat → Nat → Option Nat) → Unit → hS → Prop) (MX0_putChoice : Option Nat → Int32 → Nat → Nat → (Nat → Nat × Nat) → (Nat → Nat → Int32) → (Nat → Nat → Int64) → (Nat → Nat → Option Nat) → Unit → hS → Prop) (MX0_putChain : Option Nat → Int32 → Nat → Nat → (Nat → Nat × Nat) → (Nat → Nat → Int32) → (Nat → Nat → Int64) → (Nat → Nat → Option Nat) → Unit → hS → Prop) (a1 : Option Nat) (a2 : Int32) (l4o : Option Nat) (s0l : Int64) (s1o : Option Nat) (n sl : Nat) (SH : Nat → Nat × Nat) (FI : Nat → Nat → Int32) (FL : Nat → Nat → Int64) (FR : Nat → Nat → Option Nat) : Unit → hS → Prop := (P_bi (RX0_putBased (s1o) (s0l) n sl SH FI FL FR) (fun v0 n0 sl0 SH0 FI0 FL0 FR0 => (P_sm (l4o) (fun c2 => (RX0_putChain_78  MX0_putNode MX0_putChoice MX0_putChain a1 a2 (FR0 c2 6) n0 sl0 SH0 FI0 FL0 FR0)))))
def RX0_putChain (MX0_putNode : Option Nat → Int32 → Nat → Nat → (Nat → Nat × Nat) → (Nat → Nat → Int32) → (Nat → Nat → Int64) → (Nat → Nat → Option Nat) → Unit → hS → Prop) (MX0_putChoice : Option Nat → Int32 → Nat → Nat → (Nat → Nat × Nat) → (Nat → Nat → Int32) → (Nat → Nat → Int64) → (Nat → Nat → Option Nat) → Unit → hS → Prop) (MX0_putChain : Option Nat → Int32 → Nat → Nat → (Nat → Nat × Nat) → (Nat → Nat → Int32) → (Nat → Nat → Int64) → (Nat → Nat → Option Nat) → Unit → hS → Prop) (a1 : Option Nat) (a2 : Int32) (n sl : Nat) (SH : Nat → Nat × Nat) (FI : Nat → Nat → Int32) (FL : Nat → Nat → Int64) (FR : Nat → Nat → Option Nat) : Unit → hS → Prop := (P_sm (a1) (fun c1 => (P_if (FR c1 3 = none) (P_ret () (n, sl, SH, FI, FL, FR)) (P_sm (FR c1 3) (fun c3 => (P_bi (RX0_isBased (FR c1 3) n sl SH FI FL FR) (fun v3 n3 sl3 SH3 FI3 FL3 FR3 => (P_if ((v3).toInt = 0) (RX0_putChain_70  MX0_putNode MX0_putChoice MX0_putChain a1 a2 (FR c1 3) (FR c3 6) n3 sl3 SH3 FI3 FL3 FR3) (P_bi (RX0_isPlainTerm (FR c3 6) n3 sl3 SH3 FI3 FL3 FR3) (fun v5 n5 sl5 SH5 FI5 FL5 FR5 => (P_if ((v5).toInt = 0) (RX0_putChain_70  MX0_putNode MX0_putChoice MX0_putChain a1 a2 (FR c1 3) (FR c3 6) n5 sl5 SH5 FI5 FL5 FR5) (P_sm (FR c3 6) (fun c8 => (P_if ((FI5 c8 2).toInt = ((45 : Int32)).toInt) (P_sm (FR c3 6) (fun c10 => (RX0_putChain_57  MX0_putNode MX0_putChoice MX0_putChain a1 a2 (FR c3 6) (-(FL5 c10 1)) (FR c1 3) n5 sl5 SH5 FI5 FL5 FR5))) (P_sm (FR c3 6) (fun c11 => (RX0_putChain_57  MX0_putNode MX0_putChoice MX0_putChain a1 a2 (FR c3 6) (FL5 c11 1) (FR c1 3) n5 sl5 SH5 FI5 FL5 FR5)))))))))))))))))
def QX0 : Nat → Nat → Option Nat → Int32 →  Nat → Nat → (Nat → Nat × Nat) → (Nat → Nat → Int32) → (Nat → Nat → Int64) → (Nat → Nat → Option Nat) → Unit → hS → Prop
  | 0, _, _, _, _, _, _, _, _, _ => fun _ _ => False
  | g + 1, 0, a1, a2, n, sl, SH, FI, FL, FR => RX0_putNode (fun a1 a2 n sl SH FI FL FR => QX0 g 0 a1 a2 n sl SH FI FL FR) (fun a1 a2 n sl SH FI FL FR => QX0 g 1 a1 a2 n sl SH FI FL FR) (fun a1 a2 n sl SH FI FL FR => QX0 g 2 a1 a2 n sl SH FI FL FR) a1 a2 n sl SH FI FL FR
  | g + 1, 1, a1, a2, n, sl, SH, FI, FL, FR => RX0_putChoice (fun a1 a2 n sl SH FI FL FR => QX0 g 0 a1 a2 n sl SH FI FL FR) (fun a1 a2 n sl SH FI FL FR => QX0 g 1 a1 a2 n sl SH FI FL FR) (fun a1 a2 n sl SH FI FL FR => QX0 g 2 a1 a2 n sl SH FI FL FR) a1 a2 n sl SH FI FL FR
  | g + 1, _, a1, a2, n, sl, SH, FI, FL, FR => RX0_putChain (fun a1 a2 n sl SH FI FL FR => QX0 g 0 a1 a2 n sl SH FI FL FR) (fun a1 a2 n sl SH FI FL FR => QX0 g 1 a1 a2 n sl SH FI FL FR) (fun a1 a2 n sl SH FI FL FR => QX0 g 2 a1 a2 n sl SH FI FL FR) a1 a2 n sl SH FI FL FR
def RX0_putNode_ (a1 : Option Nat) (a2 : Int32) (n sl : Nat) (SH : Nat → Nat × Nat) (FI : Nat → Nat → Int32) (FL : Nat → Nat → Int64) (FR : Nat → Nat → Option Nat) : Unit → hS → Prop := fun v s => ∃ g, QX0 g 0 a1 a2 n sl SH FI FL FR v s
def RX0_putChoice_ (a1 : Option Nat) (a2 : Int32) (n sl : Nat) (SH : Nat → Nat × Nat) (FI : Nat → Nat → Int32) (FL : Nat → Nat → Int64) (FR : Nat → Nat → Option Nat) : Unit → hS → Prop := fun v s => ∃ g, QX0 g 1 a1 a2 n sl SH FI FL FR v s
def RX0_putChain_ (a1 : Option Nat) (a2 : Int32) (n sl : Nat) (SH : Nat → Nat × Nat) (FI : Nat → Nat → Int32) (FL : Nat → Nat → Int64) (FR : Nat → Nat → Option Nat) : Unit → hS → Prop := fun v s => ∃ g, QX0 g 2 a1 a2 n sl SH FI FL FR v s
def RX0_putPlace (a1 : Option Nat) (n sl : Nat) (SH : Nat → Nat × Nat) (FI : Nat → Nat → Int32) (FL : Nat → Nat → Int64) (FR : Nat → Nat → Option Nat) : Unit → hS → Prop := (P_sm (a1) (fun c1 => (P_if ((FI c1 0).toInt = 1) (P_sm (a1) (fun c3 => (P_bi (RX0_putNode_ (FR c3 2) ((0 : Int32)) n sl SH FI FL FR) (fun v3 n3 sl3 SH3 FI3 FL3 FR3 => (P_ret () (n3, sl3, SH3, FI3, FL3, FR3)))))) (P_if ((FI c1 0).toInt = 2) (P_sm (a1) (fun c6 => (P_bi (RX0_put (((80 : Int32)) + ((FL c6 1).toInt32)) n sl SH FI FL FR) (fun v6 n6 sl6 SH6 FI6 FL6 FR6 => (P_ret () (n6, sl6, SH6, FI6, FL6, FR6)))))) (P_if ((FI c1 0).toInt = 3) (P_sm (a1) (fun c9 => (P_bi (RX0_putNode_ (FR c9 2) ((0 : Int32)) n sl SH FI FL FR) (fun v9 n9 sl9 SH9 FI9 FL9 FR9 => (P_bi (RX0_put ((159 : Int32)) n9 sl9 SH9 FI9 FL9 FR9) (fun v10 n10 sl10 SH10 FI10 FL10 FR10 => (P_ret () (n10, sl10, SH10, FI10, FL10, FR10)))))))) (P_if ((FI c1 0).toInt = 4) (P_sm (a1) (fun c13 => (P_bi (RX0_putBlock (FR c13 3) n sl SH FI FL FR) (fun v13 n13 sl13 SH13 FI13 FL13 FR13 => (P_ret () (n13, sl13, SH13, FI13, FL13, FR13)))))) (P_ret () (n, sl, SH, FI, FL, FR))))))))
def RX0_putLocation_40 (K7 : Int32 → Option Nat → Nat → Nat → (Nat → Nat × Nat) → (Nat → Nat → Int32) → (Nat → Nat → Int64) → (Nat → Nat → Option Nat) → Int32 → hS → Prop) (a1 : Option Nat) (l2i : Int32) (l3o : Option Nat) (n sl : Nat) (SH : Nat → Nat × Nat) (FI : Nat → Nat → Int32) (FL : Nat → Nat → Int64) (FR : Nat → Nat → Option Nat) : Int32 → hS → Prop := (P_sm (l3o) (fun c1 => (K7 (l2i) (FR c1 5) n sl SH FI FL FR)))
def BX0_putLocation_7 (K7 : Int32 → Option Nat → Nat → Nat → (Nat → Nat × Nat) → (Nat → Nat → Int32) → (Nat → Nat → Int64) → (Nat → Nat → Option Nat) → Int32 → hS → Prop) (a1 : Option Nat) (l2i : Int32) (l3o : Option Nat) (n sl : Nat) (SH : Nat → Nat × Nat) (FI : Nat → Nat → Int32) (FL : Nat → Nat → Int64) (FR : Nat → Nat → Option Nat) : Int32 → hS → Prop := (P_if (l3o = none) (P_if (((300 : Int32)).toInt < ((FI 119 1) - (l2i)).toInt) (P_ret ((0 : Int32)) (n, sl, SH, FI, FL, FR)) (P_ret ((1 : Int32)) (n, sl, SH, FI, FL, FR))) (P_bi (RX0_putPlace (l3o) n sl SH FI FL FR) (fun v2 n2 sl2 SH2 FI2 FL2 FR2 => (P_sm (l3o) (fun c4 => (P_if ((FI2 c4 4).toInt = ((-1 : Int32)).toInt) (RX0_putLocation_40 K7 a1 (l2i) (l3o) n2 sl2 SH2 FI2 FL2 FR2) (P_bi (RX0_put ((147 : Int32)) n2 sl2 SH2 FI2 FL2 FR2) (fun v5 n5 sl5 SH5 FI5 FL5 FR5 => (P_sm (l3o) (fun c7 => (P_bi (RX0_putLeb ((FI5 c7 4).toInt64) n5 sl5 SH5 FI5 FL5 FR5) (fun v7 n7 sl7 SH7 FI7 FL7 FR7 => (RX0_putLocation_40 K7 a1 (l2i) (l3o) n7 sl7 SH7 FI7 FL7 FR7)))))))))))))
def GX0_putLocation_7  (a1 : Option Nat) : Nat → Int32 → Option Nat → Nat → Nat → (Nat → Nat × Nat) → (Nat → Nat → Int32) → (Nat → Nat → Int64) → (Nat → Nat → Option Nat) → Int32 → hS → Prop
  | 0, _, _, _, _, _, _, _, _ => fun _ _ => False
  | g + 1, l2i, l3o, n, sl, SH, FI, FL, FR => BX0_putLocation_7  (GX0_putLocation_7  a1 g) a1 l2i l3o n sl SH FI FL FR
def RX0_putLocation_7  (a1 : Option Nat) (l2i : Int32) (l3o : Option Nat) (n sl : Nat) (SH : Nat → Nat × Nat) (FI : Nat → Nat → Int32) (FL : Nat → Nat → Int64) (FR : Nat → Nat → Option Nat) : Int32 → hS → Prop := fun v s => ∃ g, GX0_putLocation_7  a1 g l2i l3o n sl SH FI FL FR v s
def RX0_putLocation (a1 : Option Nat) (n sl : Nat) (SH : Nat → Nat × Nat) (FI : Nat → Nat → Int32) (FL : Nat → Nat → Int64) (FR : Nat → Nat → Option Nat) : Int32 → hS → Prop := (RX0_putLocation_7  a1 (FI 119 1) (a1) n sl SH FI FL FR)
def RX0_code_132  (a1 : Option Nat) (l2i : Int32) (n sl : Nat) (SH : Nat → Nat × Nat) (FI : Nat → Nat → Int32) (FL : Nat → Nat → Int64) (FR : Nat → Nat → Option Nat) : Option Nat → hS → Prop := (P_if ((l2i).toInt = 0) (P_ret (none) (n, sl, SH, FI, FL, FR)) (P_if ((Int32.ofNat (SH 120).2).toInt < (FI 119 1).toInt) (P_ret (none) (n, sl, SH, FI, FL, FR)) (P_bi (RJ7_copyOf_59c91 (some 120) (FI 119 1) n sl SH FI FL FR) (fun v2 n2 sl2 SH2 FI2 FL2 FR2 => (P_ret (v2) (n2, sl2, SH2, FI2, FL2, FR2))))))
def RX0_code_111  (a1 : Option Nat) (l2i : Int32) (n sl : Nat) (SH : Nat → Nat × Nat) (FI : Nat → Nat → Int32) (FL : Nat → Nat → Int64) (FR : Nat → Nat → Option Nat) : Option Nat → hS → Prop := (P_sm (a1) (fun c1 => (P_if (0 < (FI c1 5).toInt) (P_bi (RX0_putNumber ((0 : Int64)) ((8 : Int32)) n sl SH FI FL FR) (fun v2 n2 sl2 SH2 FI2 FL2 FR2 => (P_bi (RX0_putNumber ((0 : Int64)) ((8 : Int32)) n2 sl2 SH2 FI2 FL2 FR2) (fun v3 n3 sl3 SH3 FI3 FL3 FR3 => (RX0_code_132  a1 (l2i) n3 sl3 SH3 FI3 FL3 FR3))))) (RX0_code_132  a1 (l2i) n sl SH FI FL FR))))
def BX0_code_27 (K27 : Int32 → Int32 → Nat → Nat → (Nat → Nat × Nat) → (Nat → Nat → Int32) → (Nat → Nat → Int64) → (Nat → Nat → Option Nat) → Option Nat → hS → Prop) (a1 : Option Nat) (l2i : Int32) (l3i : Int32) (n sl : Nat) (SH : Nat → Nat × Nat) (FI : Nat → Nat → Int32) (FL : Nat → Nat → Int64) (FR : Nat → Nat → Option Nat) : Option Nat → hS → Prop := (P_sm (a1) (fun c1 => (P_if ((l3i).toInt < (FI c1 5).toInt) (P_if ((l3i).toInt < ((8 : Int32)).toInt) (P_sm (a1) (fun c4 => (P_sm (FR c4 2) (fun c5 => P_and (p_in (l3i) (SH c5).2) (P_bi (RX0_putNumber (FL c5 (l3i).toInt.toNat) ((8 : Int32)) n sl SH FI FL FR) (fun v5 n5 sl5 SH5 FI5 FL5 FR5 => (P_sm (a1) (fun c7 => (P_sm (FR5 c7 3) (fun c8 => P_and (p_in (l3i) (SH5 c8).2) (P_bi (RX0_putNumber (FL5 c8 (l3i).toInt.toNat) ((8 : Int32)) n5 sl5 SH5 FI5 FL5 FR5) (fun v8 n8 sl8 SH8 FI8 FL8 FR8 => (P_bi (RX0_putNumber ((0 : Int64)) ((2 : Int32)) n8 sl8 SH8 FI8 FL8 FR8) (fun v9 n9 sl9 SH9 FI9 FL9 FR9 => (P_sm (a1) (fun c11 => (P_sm (FR9 c11 4) (fun c12 => P_and (p_in (l3i) (SH9 c12).2) (P_bi (RX0_putLocation (FR9 c12 (l3i).toInt.toNat) n9 sl9 SH9 FI9 FL9 FR9) (fun v12 n12 sl12 SH12 FI12 FL12 FR12 => (P_bi (RX0_patch (FI8 119 1) (((FI12 119 1) - (FI8 119 1)) - ((2 : Int32))) n12 sl12 SH12 FI12 FL12 FR12) (fun v13 n13 sl13 SH13 FI13 FL13 FR13 => (K27 ((l2i) &&& (v12)) ((l3i) + (1 : Int32)) n13 sl13 SH13 FI13 FL13 FR13))))))))))))))))))))))) (RX0_code_111  a1 (l2i) n sl SH FI FL FR)) (RX0_code_111  a1 (l2i) n sl SH FI FL FR))))
def GX0_code_27  (a1 : Option Nat) : Nat → Int32 → Int32 → Nat → Nat → (Nat → Nat × Nat) → (Nat → Nat → Int32) → (Nat → Nat → Int64) → (Nat → Nat → Option Nat) → Option Nat → hS → Prop
  | 0, _, _, _, _, _, _, _, _ => fun _ _ => False
  | g + 1, l2i, l3i, n, sl, SH, FI, FL, FR => BX0_code_27  (GX0_code_27  a1 g) a1 l2i l3i n sl SH FI FL FR
def RX0_code_27  (a1 : Option Nat) (l2i : Int32) (l3i : Int32) (n sl : Nat) (SH : Nat → Nat × Nat) (FI : Nat → Nat → Int32) (FL : Nat → Nat → Int64) (FR : Nat → Nat → Option Nat) : Option Nat → hS → Prop := fun v s => ∃ g, GX0_code_27  a1 g l2i l3i n sl SH FI FL FR v s
def RX0_code_25  (a1 : Option Nat) (l2i : Int32) (n sl : Nat) (SH : Nat → Nat × Nat) (FI : Nat → Nat → Int32) (FL : Nat → Nat → Int64) (FR : Nat → Nat → Option Nat) : Option Nat → hS → Prop := (RX0_code_27  a1 (l2i) ((0 : Int32)) n sl SH FI FL FR)
def RX0_code (a1 : Option Nat) (n sl : Nat) (SH : Nat → Nat × Nat) (FI : Nat → Nat → Int32) (FL : Nat → Nat → Int64) (FR : Nat → Nat → Option Nat) : Option Nat → hS → Prop := (P_sm (a1) (fun c2 => (P_if (((h_up FI 119 1 ((0 : Int32))) c2 5).toInt = 0) (P_sm (a1) (fun c4 => (P_sm (FR c4 4) (fun c5 => P_and (p_in ((0 : Int32)) (SH c5).2) (P_bi (RX0_putLocation (FR c5 0) n sl SH (h_up FI 119 1 ((0 : Int32))) FL FR) (fun v5 n5 sl5 SH5 FI5 FL5 FR5 => (RX0_code_25  a1 (v5) n5 sl5 SH5 FI5 FL5 FR5))))))) (RX0_code_25  a1 ((1 : Int32)) n sl SH (h_up FI 119 1 ((0 : Int32))) FL FR))))
def RX11_tell (a1 : Int32) (a2 : Int32) (a3 : Int32) (a4 : Int32) (n sl : Nat) (SH : Nat → Nat × Nat) (FI : Nat → Nat → Int32) (FL : Nat → Nat → Int64) (FR : Nat → Nat → Option Nat) : Unit → hS → Prop := (P_and (p_in ((0 : Int32)) (SH 21).2) (P_if ((a1).toInt = 0) (P_and (p_in ((1 : Int32)) (SH 21).2) (P_and (p_in ((2 : Int32)) (SH 21).2) (P_and (p_in ((3 : Int32)) (SH 21).2) (P_ret () (n, sl, SH, (h_up (h_up (h_up (h_up FI 21 0 (a1)) 21 1 ((-1 : Int32))) 21 2 (a3)) 21 3 (a4)), FL, FR))))) (P_and (p_in ((1 : Int32)) (SH 21).2) (P_and (p_in ((2 : Int32)) (SH 21).2) (P_and (p_in ((3 : Int32)) (SH 21).2) (P_ret () (n, sl, SH, (h_up (h_up (h_up (h_up FI 21 0 (a1)) 21 1 (a2)) 21 2 (a3)) 21 3 (a4)), FL, FR)))))))
def RX11_isVariable (a1 : Int32) (n sl : Nat) (SH : Nat → Nat × Nat) (FI : Nat → Nat → Int32) (FL : Nat → Nat → Int64) (FR : Nat → Nat → Option Nat) : Int32 → hS → Prop := (P_if ((a1).toInt < 0) (P_ret ((0 : Int32)) (n, sl, SH, FI, FL, FR)) (P_if ((a1).toInt < (FI 0 12).toInt) (P_sm (FR 0 11) (fun c3 => (P_if ((a1).toInt < (Int32.ofNat (SH c3).2).toInt) (P_ret ((1 : Int32)) (n, sl, SH, FI, FL, FR)) (P_ret ((0 : Int32)) (n, sl, SH, FI, FL, FR))))) (P_ret ((0 : Int32)) (n, sl, SH, FI, FL, FR))))
def RX11_byteAt (a1 : Option Nat) (a2 : Int64) (n sl : Nat) (SH : Nat → Nat × Nat) (FI : Nat → Nat → Int32) (FL : Nat → Nat → Int64) (FR : Nat → Nat → Option Nat) : Int32 → hS → Prop := (P_if ((a2).toInt < ((0 : Int64)).toInt) (P_ret ((-1 : Int32)) (n, sl, SH, FI, FL, FR)) (P_sm (a1) (fun c2 => (P_if ((a2).toInt < ((Int32.ofNat (SH c2).2).toInt64).toInt) (P_sm (a1) (fun c4 => P_and (p_in ((a2).toInt32) (SH c4).2) (P_ret (FI c4 ((a2).toInt32).toInt.toNat) (n, sl, SH, FI, FL, FR)))) (P_ret ((-1 : Int32)) (n, sl, SH, FI, FL, FR))))))
def RX11_variable (a1 : Int32) (a2 : Int32) (n sl : Nat) (SH : Nat → Nat × Nat) (FI : Nat → Nat → Int32) (FL : Nat → Nat → Int64) (FR : Nat → Nat → Option Nat) : Int32 → hS → Prop := (P_bi (RX11_isVariable (a1) n sl SH FI FL FR) (fun v0 n0 sl0 SH0 FI0 FL0 FR0 => (P_if ((v0).toInt = 0) (P_ret ((-1 : Int32)) (n0, sl0, SH0, FI0, FL0, FR0)) (P_sm (FR0 0 11) (fun c3 => P_and (p_in (a1) (SH0 c3).2) (P_if ((a2).toInt = 0) (P_sm (FR0 c3 (a1).toInt.toNat) (fun c5 => (P_ret (FI0 c5 5) (n0, sl0, SH0, FI0, FL0, FR0)))) (P_if ((a2).toInt = ((1 : Int32)).toInt) (P_sm (FR0 c3 (a1).toInt.toNat) (fun c7 => (P_sm (FR0 c7 6) (fun c8 => (P_ret (Int32.ofNat (SH0 c8).2) (n0, sl0, SH0, FI0, FL0, FR0)))))) (P_if ((a2).toInt = ((2 : Int32)).toInt) (P_sm (FR0 c3 (a1).toInt.toNat) (fun c10 => (P_sm (FR0 c10 0) (fun c11 => (P_ret (Int32.ofNat (SH0 c11).2) (n0, sl0, SH0, FI0, FL0, FR0)))))) (P_if ((a2).toInt < ((1000 : Int32)).toInt) (P_sm (FR0 c3 (a1).toInt.toNat) (fun c13 => (P_bi (RX11_byteAt (FR0 c13 6) (((a2).toInt64) - ((100 : Int64))) n0 sl0 SH0 FI0 FL0 FR0) (fun v13 n13 sl13 SH13 FI13 FL13 FR13 => (P_ret (v13) (n13, sl13, SH13, FI13, FL13, FR13)))))) (P_sm (FR0 c3 (a1).toInt.toNat) (fun c15 => (P_bi (RX11_byteAt (FR0 c15 0) (((a2).toInt64) - ((1000 : Int64))) n0 sl0 SH0 FI0 FL0 FR0) (fun v15 n15 sl15 SH15 FI15 FL15 FR15 => (P_ret (v15) (n15, sl15, SH15, FI15, FL15, FR15)))))))))))))))
def RX11_compile_130 (K71 : Int32 → Int32 → Int32 → Nat → Nat → (Nat → Nat × Nat) → (Nat → Nat → Int32) → (Nat → Nat → Int64) → (Nat → Nat → Option Nat) → Int32 → hS → Prop)  (l2i : Int32) (l3i : Int32) (l4i : Int32) (n sl : Nat) (SH : Nat → Nat × Nat) (FI : Nat → Nat → Int32) (FL : Nat → Nat → Int64) (FR : Nat → Nat → Option Nat) : Int32 → hS → Prop := (K71 (l2i) (l3i) ((l4i) + (1 : Int32)) n sl SH FI FL FR)
def RX11_compile_136   (l2i : Int32) (l3i : Int32) (n sl : Nat) (SH : Nat → Nat × Nat) (FI : Nat → Nat → Int32) (FL : Nat → Nat → Int64) (FR : Nat → Nat → Option Nat) : Int32 → hS → Prop := (P_bi (RX11_tell (l2i) (l3i) ((0 : Int32)) ((0 : Int32)) n sl SH FI FL FR) (fun v0 n0 sl0 SH0 FI0 FL0 FR0 => (P_if ((l2i).toInt = 0) (P_ret (FI0 110 3) (n0, sl0, SH0, (h_up FI0 0 12 (FI0 110 3)), FL0, (h_up FR0 0 11 (FR0 110 2)))) (P_ret ((-1 : Int32)) (n0, sl0, SH0, FI0, FL0, FR0)))))
def BX11_compile_71 (K71 : Int32 → Int32 → Int32 → Nat → Nat → (Nat → Nat × Nat) → (Nat → Nat → Int32) → (Nat → Nat → Int64) → (Nat → Nat → Option Nat) → Int32 → hS → Prop)  (l2i : Int32) (l3i : Int32) (l4i : Int32) (n sl : Nat) (SH : Nat → Nat × Nat) (FI : Nat → Nat → Int32) (FL : Nat → Nat → Int64) (FR : Nat → Nat → Option Nat) : Int32 → hS → Prop := (P_if ((l4i).toInt < (FI 110 3).toInt) (P_if ((l2i).toInt = 0) (P_sm (FR 110 2) (fun c3 => P_and (p_in (l4i) (SH c3).2) (P_bi (RX0_code (FR c3 (l4i).toInt.toNat) n sl SH FI FL FR) (fun v3 n3 sl3 SH3 FI3 FL3 FR3 => (P_sm (FR c3 (l4i).toInt.toNat) (fun c5 => (P_sm (FR c3 (l4i).toInt.toNat) (fun c6 => (P_if ((h_up FR3 c5 6 (v3)) c6 6 = none) (P_sm (FR c3 (l4i).toInt.toNat) (fun c8 => (RX11_compile_130 K71  ((7 : Int32)) (FI3 c8 1) (l4i) n3 sl3 SH3 FI3 FL3 (h_up FR3 c5 6 (v3))))) (RX11_compile_130 K71  (l2i) (l3i) (l4i) n3 sl3 SH3 FI3 FL3 (h_up FR3 c5 6 (v3)))))))))))) (RX11_compile_136   (l2i) (l3i) n sl SH FI FL FR)) (RX11_compile_136   (l2i) (l3i) n sl SH FI FL FR))
def GX11_compile_71   : Nat → Int32 → Int32 → Int32 → Nat → Nat → (Nat → Nat × Nat) → (Nat → Nat → Int32) → (Nat → Nat → Int64) → (Nat → Nat → Option Nat) → Int32 → hS → Prop
  | 0, _, _, _, _, _, _, _, _, _ => fun _ _ => False
  | g + 1, l2i, l3i, l4i, n, sl, SH, FI, FL, FR => BX11_compile_71  (GX11_compile_71   g)  l2i l3i l4i n sl SH FI FL FR
def RX11_compile_71   (l2i : Int32) (l3i : Int32) (l4i : Int32) (n sl : Nat) (SH : Nat → Nat × Nat) (FI : Nat → Nat → Int32) (FL : Nat → Nat → Int64) (FR : Nat → Nat → Option Nat) : Int32 → hS → Prop := fun v s => ∃ g, GX11_compile_71   g l2i l3i l4i n sl SH FI FL FR v s
def RX11_compile_52    (n sl : Nat) (SH : Nat → Nat × Nat) (FI : Nat → Nat → Int32) (FL : Nat → Nat → Int64) (FR : Nat → Nat → Option Nat) : Int32 → hS → Prop := (RX11_compile_71   (FI 110 5) (FI 110 6) ((0 : Int32)) n sl SH FI FL FR)
def BX11_compile_24 (K24 : Int32 → Int32 → Nat → Nat → (Nat → Nat × Nat) → (Nat → Nat → Int32) → (Nat → Nat → Int64) → (Nat → Nat → Option Nat) → Int32 → hS → Prop)  (l1i : Int32) (l2i : Int32) (n sl : Nat) (SH : Nat → Nat × Nat) (FI : Nat → Nat → Int32) (FL : Nat → Nat → Int64) (FR : Nat → Nat → Option Nat) : Int32 → hS → Prop := (P_if ((l1i).toInt < (l2i).toInt) (RX11_compile_52    n sl SH FI FL FR) (P_if ((fX4_goesOn  SH FI FL FR).toInt = 0) (RX11_compile_52    n sl SH FI FL FR) (P_bi (RX4_readDeclaration  n sl SH FI FL FR) (fun v3 n3 sl3 SH3 FI3 FL3 FR3 => (K24 (l1i) ((l2i) + (1 : Int32)) n3 sl3 SH3 FI3 FL3 FR3)))))
def GX11_compile_24   : Nat → Int32 → Int32 → Nat → Nat → (Nat → Nat × Nat) → (Nat → Nat → Int32) → (Nat → Nat → Int64) → (Nat → Nat → Option Nat) → Int32 → hS → Prop
  | 0, _, _, _, _, _, _, _, _ => fun _ _ => False
  | g + 1, l1i, l2i, n, sl, SH, FI, FL, FR => BX11_compile_24  (GX11_compile_24   g)  l1i l2i n sl SH FI FL FR
def RX11_compile_24   (l1i : Int32) (l2i : Int32) (n sl : Nat) (SH : Nat → Nat × Nat) (FI : Nat → Nat → Int32) (FL : Nat → Nat → Int64) (FR : Nat → Nat → Option Nat) : Int32 → hS → Prop := fun v s => ∃ g, GX11_compile_24   g l1i l2i n sl SH FI FL FR v s
def RX11_compile  (n sl : Nat) (SH : Nat → Nat × Nat) (FI : Nat → Nat → Int32) (FL : Nat → Nat → Int64) (FR : Nat → Nat → Option Nat) : Int32 → hS → Prop := (P_bi (RX4_begin (some 19) (FI 0 9) n sl SH (h_up FI 0 9 ((0 : Int32))) FL FR) (fun v1 n1 sl1 SH1 FI1 FL1 FR1 => (RX11_compile_24   (FI 0 9) ((0 : Int32)) n1 sl1 SH1 FI1 FL1 FR1)))
def BX11_feedFour_3 (K3 : Int32 → Nat → Nat → (Nat → Nat × Nat) → (Nat → Nat → Int32) → (Nat → Nat → Int64) → (Nat → Nat → Option Nat) → Unit → hS → Prop) (a1 : Int32) (l2i : Int32) (n sl : Nat) (SH : Nat → Nat × Nat) (FI : Nat → Nat → Int32) (FL : Nat → Nat → Int64) (FR : Nat → Nat → Option Nat) : Unit → hS → Prop := (P_if ((l2i).toInt < 0) (P_ret () (n, sl, SH, FI, FL, FR)) (P_if ((FI 0 9).toInt < ((1000 : Int32)).toInt) (P_and (p_in (FI 0 9) (SH 19).2) (K3 ((l2i) + (-8 : Int32)) n sl SH (h_up (h_up FI 19 (FI 0 9).toInt.toNat ((((a1).toUInt32 >>> ((l2i).toUInt32 &&& Int32.toUInt32 31)).toInt32) &&& ((255 : Int32)))) 0 9 ((FI 0 9) + ((1 : Int32)))) FL FR)) (P_ret () (n, sl, SH, FI, FL, FR))))
def GX11_feedFour_3  (a1 : Int32) : Nat → Int32 → Nat → Nat → (Nat → Nat × Nat) → (Nat → Nat → Int32) → (Nat → Nat → Int64) → (Nat → Nat → Option Nat) → Unit → hS → Prop
  | 0, _, _, _, _, _, _, _ => fun _ _ => False
  | g + 1, l2i, n, sl, SH, FI, FL, FR => BX11_feedFour_3  (GX11_feedFour_3  a1 g) a1 l2i n sl SH FI FL FR
def RX11_feedFour_3  (a1 : Int32) (l2i : Int32) (n sl : Nat) (SH : Nat → Nat × Nat) (FI : Nat → Nat → Int32) (FL : Nat → Nat → Int64) (FR : Nat → Nat → Option Nat) : Unit → hS → Prop := fun v s => ∃ g, GX11_feedFour_3  a1 g l2i n sl SH FI FL FR v s
def RX11_feedFour (a1 : Int32) (n sl : Nat) (SH : Nat → Nat × Nat) (FI : Nat → Nat → Int32) (FL : Nat → Nat → Int64) (FR : Nat → Nat → Option Nat) : Unit → hS → Prop := (RX11_feedFour_3  a1 ((24 : Int32)) n sl SH FI FL FR)
def RX11_feed (a1 : Int32) (a2 : Int32) (a3 : Int32) (a4 : Int32) (a5 : Int32) (n sl : Nat) (SH : Nat → Nat × Nat) (FI : Nat → Nat → Int32) (FL : Nat → Nat → Int64) (FR : Nat → Nat → Option Nat) : Int32 → hS → Prop := (P_if (((1000 : Int32)).toInt < ((FI 0 9) + ((20 : Int32))).toInt) (P_ret ((-1 : Int32)) (n, sl, SH, FI, FL, FR)) (P_bi (RX11_feedFour (a1) n sl SH FI FL FR) (fun v1 n1 sl1 SH1 FI1 FL1 FR1 => (P_bi (RX11_feedFour (a2) n1 sl1 SH1 FI1 FL1 FR1) (fun v2 n2 sl2 SH2 FI2 FL2 FR2 => (P_bi (RX11_feedFour (a3) n2 sl2 SH2 FI2 FL2 FR2) (fun v3 n3 sl3 SH3 FI3 FL3 FR3 => (P_bi (RX11_feedFour (a4) n3 sl3 SH3 FI3 FL3 FR3) (fun v4 n4 sl4 SH4 FI4 FL4 FR4 => (P_bi (RX11_feedFour (a5) n4 sl4 SH4 FI4 FL4 FR4) (fun v5 n5 sl5 SH5 FI5 FL5 FR5 => (P_ret (FI5 0 9) (n5, sl5, SH5, FI5, FL5, FR5)))))))))))))
def RX11_end (a1 : Int32) (n sl : Nat) (SH : Nat → Nat × Nat) (FI : Nat → Nat → Int32) (FL : Nat → Nat → Int64) (FR : Nat → Nat → Option Nat) : Int32 → hS → Prop := (P_if ((a1).toInt < 0) (P_ret ((-1 : Int32)) (n, sl, SH, FI, FL, FR)) (P_if ((FI 0 9).toInt < (a1).toInt) (P_ret ((-1 : Int32)) (n, sl, SH, FI, FL, FR)) (P_ret (a1) (n, sl, SH, (h_up FI 0 9 (a1)), FL, FR))))
def RX11_tapeInto (a1 : Option Nat) (a2 : Int32) (n sl : Nat) (SH : Nat → Nat × Nat) (FI : Nat → Nat → Int32) (FL : Nat → Nat → Int64) (FR : Nat → Nat → Option Nat) : Int32 → hS → Prop := (P_if ((a2).toInt < 0) (P_ret ((-1 : Int32)) (n, sl, SH, FI, FL, FR)) (P_sm (a1) (fun c2 => (P_if ((a2).toInt < (Int32.ofNat (SH c2).2).toInt) (P_if (((600 : Int32)).toInt < (FI 0 9).toInt) (P_ret ((-1 : Int32)) (n, sl, SH, FI, FL, FR)) (P_bi (RJ7_copyOf_59c91 (some 19) (FI 0 9) n sl SH FI FL FR) (fun v4 n4 sl4 SH4 FI4 FL4 FR4 => (P_sm (a1) (fun c6 => P_and (p_in (a2) (SH4 c6).2 ∧ ∃ v, v4 = some v) (P_ret (FI 0 9) (n4, sl4, SH4, (h_up FI4 0 9 ((0 : Int32))), FL4, (h_up FR4 c6 (a2).toInt.toNat (v4))))))))) (P_ret ((-1 : Int32)) (n, sl, SH, FI, FL, FR))))))
def RX11_expression (a1 : Int32) (n sl : Nat) (SH : Nat → Nat × Nat) (FI : Nat → Nat → Int32) (FL : Nat → Nat → Int64) (FR : Nat → Nat → Option Nat) : Int32 → hS → Prop := (P_bi (RX11_tapeInto (some 26) (a1) n sl SH FI FL FR) (fun v0 n0 sl0 SH0 FI0 FL0 FR0 => (P_ret (v0) (n0, sl0, SH0, FI0, FL0, FR0))))
def RX11_list (a1 : Int32) (n sl : Nat) (SH : Nat → Nat × Nat) (FI : Nat → Nat → Int32) (FL : Nat → Nat → Int64) (FR : Nat → Nat → Option Nat) : Int32 → hS → Prop := (P_bi (RX11_tapeInto (some 43) (a1) n sl SH FI FL FR) (fun v0 n0 sl0 SH0 FI0 FL0 FR0 => (P_ret (v0) (n0, sl0, SH0, FI0, FL0, FR0))))
end
section
/-! THE CLASS'S CODER writes: what it puts behind the bytes B that stand (behind t6.py's print). -/
theorem l_ushr (y : Int64) : ∀ k : Nat, k < 8 → ((y.toUInt64 >>> (UInt64.ofNat (8 * k))).toInt64).toBitVec = y.toBitVec >>> (8 * k)
  | 0, _ => by show (y.toUInt64 >>> (UInt64.ofNat 0)).toBitVec = _; rw [UInt64.toBitVec_shiftRight]; rfl
  | 1, _ => by show (y.toUInt64 >>> (UInt64.ofNat 8)).toBitVec = _; rw [UInt64.toBitVec_shiftRight]; rfl
  | 2, _ => by show (y.toUInt64 >>> (UInt64.ofNat 16)).toBitVec = _; rw [UInt64.toBitVec_shiftRight]; rfl
  | 3, _ => by show (y.toUInt64 >>> (UInt64.ofNat 24)).toBitVec = _; rw [UInt64.toBitVec_shiftRight]; rfl
  | 4, _ => by show (y.toUInt64 >>> (UInt64.ofNat 32)).toBitVec = _; rw [UInt64.toBitVec_shiftRight]; rfl
  | 5, _ => by show (y.toUInt64 >>> (UInt64.ofNat 40)).toBitVec = _; rw [UInt64.toBitVec_shiftRight]; rfl
  | 6, _ => by show (y.toUInt64 >>> (UInt64.ofNat 48)).toBitVec = _; rw [UInt64.toBitVec_shiftRight]; rfl
  | 7, _ => by show (y.toUInt64 >>> (UInt64.ofNat 56)).toBitVec = _; rw [UInt64.toBitVec_shiftRight]; rfl
  | k + 8, h => by omega
theorem b_ushr {x : BitVec 64} {k : Nat} (h : 0 ≤ x.toInt) : (x >>> k).toInt = x.toInt / 2 ^ k := by
  have hx := x.isLt
  have h2 : 2 * x.toNat < 2 ^ 64 := by
    rw [BitVec.toInt_eq_toNat_cond] at h
    split at h
    · assumption
    · omega
  have e1 : x.toInt = (x.toNat : Int) := by rw [BitVec.toInt_eq_toNat_cond, if_pos h2]
  have e2 : (x >>> k).toNat = x.toNat / 2 ^ k := by rw [BitVec.toNat_ushiftRight, Nat.shiftRight_eq_div_pow]
  have h3 : x.toNat / 2 ^ k ≤ x.toNat := Nat.div_le_self _ _
  rw [BitVec.toInt_eq_toNat_cond, e2, if_pos (by omega), e1, Int.natCast_ediv, Int.natCast_pow]
  rfl
theorem l_ushr8 {x : Int64} {l : Int32} {i : Nat} (h0 : 0 ≤ x.toInt) (hl : l.toInt = i) (hi : i < 8) : ((x.toUInt64 >>> ((((8 : Int32)) * l).toInt64.toUInt64 &&& Int64.toUInt64 63)).toInt64).toInt = x.toInt / 256 ^ i := by
  have e0 : l = Int32.ofNat i := i_eqv (by rw [hl, i_lit (by omega)])
  subst e0
  have key : ∀ k : Nat, k < 8 → (((8 : Int32) * Int32.ofNat k).toInt64.toUInt64 &&& Int64.toUInt64 63) = UInt64.ofNat (8 * k) := by decide
  rw [key i hi]
  show ((x.toUInt64 >>> (UInt64.ofNat (8 * i))).toInt64).toBitVec.toInt = _
  rw [l_ushr x i hi, b_ushr h0, Int.pow_mul]
  rfl
theorem l_ushr7 {x : Int64} (h0 : 0 ≤ x.toInt) : ((x.toUInt64 >>> (((7 : Int32)).toInt64.toUInt64 &&& Int64.toUInt64 63)).toInt64).toInt = x.toInt / 128 := by
  have key : (((7 : Int32)).toInt64.toUInt64 &&& Int64.toUInt64 63) = UInt64.ofNat 7 := by decide
  rw [key]
  have e : ((x.toUInt64 >>> (UInt64.ofNat 7)).toInt64).toBitVec = x.toBitVec >>> 7 := by show (x.toUInt64 >>> (UInt64.ofNat 7)).toBitVec = _; rw [UInt64.toBitVec_shiftRight]; rfl
  show ((x.toUInt64 >>> (UInt64.ofNat 7)).toInt64).toBitVec.toInt = _
  rw [e, b_ushr h0]
  rfl
def c_vw (FI : Nat → Nat → Int32) (B : List Int) : Prop := FI 119 1 = Int32.ofNat B.length ∧ (B.length ≤ 600 → ∀ i, i < B.length → (FI 120 i).toInt = B.getD i 0)
def c_fr (FI F2 : Nat → Nat → Int32) : Prop := ∀ c k, c ≠ 119 → c ≠ 120 → F2 c k = FI c k
def c_ap (n sl : Nat) (SH : Nat → Nat × Nat) (FI : Nat → Nat → Int32) (FL : Nat → Nat → Int64) (FR : Nat → Nat → Option Nat) (s : hS) (A : List Int) : Prop := ∃ F2, s = (n, sl, SH, F2, FL, FR) ∧ c_fr FI F2 ∧ ∀ B, c_vw FI B → c_vw F2 (B ++ A)
section CP
variable {n sl : Nat} {SH : Nat → Nat × Nat} {FI : Nat → Nat → Int32} {FL : Nat → Nat → Int64} {FR : Nat → Nat → Option Nat} {v : Unit} {s : hS}
theorem c_ap_0 : c_ap n sl SH FI FL FR (n, sl, SH, FI, FL, FR) [] := ⟨FI, rfl, fun _ _ _ _ => rfl, fun B h => by rw [List.append_nil]; exact h⟩
theorem c_ap_t {F1 : Nat → Nat → Int32} {A A2 : List Int} (h : c_ap n sl SH FI FL FR (n, sl, SH, F1, FL, FR) A) (h2 : c_ap n sl SH F1 FL FR s A2) : c_ap n sl SH FI FL FR s (A ++ A2) := by
  obtain ⟨F2, e, f1, a1⟩ := h
  cases e
  obtain ⟨F3, e, f2, a2⟩ := h2
  exact ⟨F3, e, fun c k g1 g2 => (f2 c k g1 g2).trans (f1 c k g1 g2), fun B hB => by rw [← List.append_assoc]; exact a2 _ (a1 B hB)⟩
theorem c_ap_cg {A A2 : List Int} (h : c_ap n sl SH FI FL FR s A) (e : A = A2) : c_ap n sl SH FI FL FR s A2 := e ▸ h
theorem c_put {a : Int32} {b : Int} (hQ : h_S n SH) (h : RX0_put a n sl SH FI FL FR v s) (hb : a.toInt % 256 = b) : c_ap n sl SH FI FL FR s [b] := by
  have hz : (Int32.ofNat (SH 120).2).toInt = 600 := by rw [s120 hQ]; decide
  have e1 : ∀ B : List Int, FI 119 1 = Int32.ofNat B.length → FI 119 1 + (1 : Int32) = Int32.ofNat (B ++ [b]).length := by
    intro B hB
    rw [hB, List.length_append]
    exact (Int32.ofNat_add _ _).symm
  rcases h with ⟨h1, h⟩ | ⟨h1, h⟩
  · obtain ⟨hp, -, rfl⟩ := h
    refine ⟨_, rfl, fun c k g1 g2 => by rw [h_up_nc g1, h_up_nc g2], fun B hB => ⟨by rw [h_up_eq]; exact e1 B hB.1, fun hl i hi => ?_⟩⟩
    rw [List.length_append, List.length_singleton] at hl hi
    have hj : (FI 119 1).toInt.toNat = B.length := by rw [hB.1, i_lit (by omega)]; omega
    rw [h_up_nc (by decide), hj]
    by_cases hi2 : i = B.length
    · subst hi2
      rw [h_up_eq, i_m255, hb]
      simp
    · rw [h_up_ne hi2, hB.2 (by omega) i (by omega)]
      rw [l_getD_app (by omega)]
  · obtain ⟨-, rfl⟩ := h
    refine ⟨_, rfl, fun c k g1 g2 => by rw [h_up_nc g1], fun B hB => ⟨by rw [h_up_eq]; exact e1 B hB.1, fun hl i hi => ?_⟩⟩
    exfalso
    rw [List.length_append, List.length_singleton] at hl
    rw [hB.1, i_lit (by omega), hz] at h1
    omega
theorem c_num_G {a1 : Int64} {a2 : Int32} {m : Nat} (hQ : h_S n SH) (h0 : 0 ≤ a1.toInt) (hm : a2.toInt = m) (h8 : m ≤ 8) : ∀ (g : Nat) (l : Int32) (FI : Nat → Nat → Int32) (v : Unit) (s : hS) (i : Nat), GX0_putNumber_3 a1 a2 g l n sl SH FI FL FR v s → l.toInt = i → i ≤ m → c_ap n sl SH FI FL FR s (lc_by (a1.toInt / 256 ^ i) (m - i)) := by
  intro g
  induction g with
  | zero => intro l FI v s i h; exact h.elim
  | succ g ih =>
    intro l FI v s i h hl hi
    have c8 : ((8 : Int32)).toInt = 8 := by decide
    rcases h with ⟨h1, h⟩ | ⟨h1, h⟩
    · rcases h with ⟨h2, h⟩ | ⟨h2, h⟩
      · obtain ⟨v1, n1, sl1, SH1, FI1, FL1, FR1, hc, h⟩ := h
        have h3 : i < m := by omega
        have hs := l_ushr8 (x := a1) h0 hl (by omega)
        have q1 := c_put (b := (a1.toInt / 256 ^ i) % 256) hQ hc (by rw [l_i_m256, hs])
        have q1' := q1
        obtain ⟨F2, e, -⟩ := q1'
        cases e
        have q2 := ih (l + 1) FI1 v s (i + 1) h (i_add hl (by decide : ((1 : Int32)).toInt = 1) (by omega) (by omega)) (by omega)
        refine c_ap_cg (c_ap_t q1 q2) ?_
        rw [show m - i = (m - (i + 1)) + 1 by omega, lc_by, Int.pow_succ, Int.ediv_ediv_of_nonneg (Int.pow_nonneg (by decide))]
        rfl
      · rw [c8] at h2
        exfalso
        omega
    · obtain ⟨-, rfl⟩ := h
      have h2 : i = m := by omega
      subst h2
      rw [Nat.sub_self]
      exact c_ap_0
theorem c_num {a1 : Int64} {a2 : Int32} {m : Nat} (hQ : h_S n SH) (h : RX0_putNumber a1 a2 n sl SH FI FL FR v s) (h0 : 0 ≤ a1.toInt) (hm : a2.toInt = m) (h8 : m ≤ 8) : c_ap n sl SH FI FL FR s (lc_by a1.toInt m) := by
  obtain ⟨g, h⟩ := h
  have q := c_num_G hQ h0 hm h8 g 0 FI v s 0 h (by decide) (by omega)
  simpa using q
theorem c_leb_G {a1 : Int64} (hQ : h_S n SH) : ∀ (g : Nat) (x : Int64) (l : Int32) (FI : Nat → Nat → Int32) (v : Unit) (s : hS) (k : Nat), GX0_putLeb_5 a1 g x l n sl SH FI FL FR v s → l.toInt = k → k ≤ 9 → 0 ≤ x.toInt → x.toInt < p7 k → c_ap n sl SH FI FL FR s (lc_u (9 - k) x.toInt) := by
  intro g
  induction g with
  | zero => intro x l FI v s k h; exact h.elim
  | succ g ih =>
    intro x l FI v s k h hl hk h0 hp
    have e127 : ((127 : Int64)).toInt = 127 := by decide
    have e0 : ((0 : Int64)).toInt = 0 := by decide
    have c9 : ((9 : Int32)).toInt = 9 := by decide
    have fin : (k = 9 ∨ x.toInt ≤ 127) → P_bi (RX0_put (x.toInt32) n sl SH FI FL FR) (fun v3 n3 sl3 SH3 FI3 FL3 FR3 => P_ret () (n3, sl3, SH3, FI3, FL3, FR3)) v s → c_ap n sl SH FI FL FR s (lc_u (9 - k) x.toInt) := by
      intro h1 h
      obtain ⟨v1, n1, sl1, SH1, FI1, FL1, FR1, hc, -, rfl⟩ := h
      have hx : x.toInt ≤ 127 := by
        rcases h1 with rfl | h1
        · have := p7_9 hp (by omega)
          omega
        · exact h1
      have q1 := c_put (b := x.toInt) hQ hc (by rw [l_i_m256]; omega)
      refine c_ap_cg q1 ?_
      cases h9 : 9 - k with
      | zero => rfl
      | succ z => rw [lc_u, if_neg (by omega)]
    rcases h with ⟨h1, h⟩ | ⟨h1, h⟩
    · rw [hl, c9] at h1
      rcases h with ⟨h2, h⟩ | ⟨h2, h⟩
      · rw [e0] at h2
        exfalso
        omega
      · rcases h with ⟨h3, h⟩ | ⟨h3, h⟩
        · rw [e127] at h3
          obtain ⟨v1, n1, sl1, SH1, FI1, FL1, FR1, hc, h⟩ := h
          have hs := l_ushr7 (x := x) h0
          have q1 := c_put (b := x.toInt % 128 + 128) hQ hc (l_or128 x)
          have q1' := q1
          obtain ⟨F2, e, -⟩ := q1'
          cases e
          have q2 := ih _ (l + 1) FI1 v s (k + 1) h (i_add hl (by decide : ((1 : Int32)).toInt = 1) (by omega) (by omega)) (by omega) (by rw [hs]; omega) (by rw [hs]; exact p7_s hp (by omega) (by omega))
          rw [hs] at q2
          refine c_ap_cg (c_ap_t q1 q2) ?_
          rw [show 9 - k = (9 - (k + 1)) + 1 by omega, lc_u, if_pos h3]
          rfl
        · rw [e127] at h3
          exact fin (Or.inr (by omega)) h
    · rw [hl, c9] at h1
      exact fin (Or.inl (by omega)) h
theorem c_leb {a1 : Int64} (hQ : h_S n SH) (h : RX0_putLeb a1 n sl SH FI FL FR v s) (h0 : 0 ≤ a1.toInt) : c_ap n sl SH FI FL FR s (lc_u 9 a1.toInt) := by
  obtain ⟨g, h⟩ := h
  exact c_leb_G hQ g a1 0 FI v s 0 h (by decide) (by omega) h0 (p7_0 (l_rng a1).2)
theorem c_sleb_G {a1 : Int64} (hQ : h_S n SH) : ∀ (g : Nat) (x : Int64) (l : Int32) (FI : Nat → Nat → Int32) (v : Unit) (s : hS) (k : Nat), GX0_putSignedLeb_5 a1 g x l n sl SH FI FL FR v s → l.toInt = k → k ≤ 9 → c_ap n sl SH FI FL FR s (lc_s (9 - k) x.toInt) := by
  intro g
  induction g with
  | zero => intro x l FI v s k h; exact h.elim
  | succ g ih =>
    intro x l FI v s k h hl hk
    have e63 : ((63 : Int64)).toInt = 63 := by decide
    have e64 : ((-64 : Int64)).toInt = -64 := by decide
    have c9 : ((9 : Int32)).toInt = 9 := by decide
    have key : k < 9 → (x.toInt < -64 ∨ 63 < x.toInt) → RX0_putSignedLeb_28 (GX0_putSignedLeb_5 a1 g) a1 x l n sl SH FI FL FR v s → c_ap n sl SH FI FL FR s (lc_s (9 - k) x.toInt) := by
      intro hk9 h1 h
      obtain ⟨v1, n1, sl1, SH1, FI1, FL1, FR1, hc, h⟩ := h
      have hs := l_shr7 (x := x) rfl
      have q1 := c_put (b := x.toInt % 128 + 128) hQ hc (l_or128 x)
      have q1' := q1
      obtain ⟨F2, e, -⟩ := q1'
      cases e
      have q2 := ih _ (l + 1) FI1 v s (k + 1) h (i_add hl (by decide : ((1 : Int32)).toInt = 1) (by omega) (by omega)) (by omega)
      rw [hs] at q2
      refine c_ap_cg (c_ap_t q1 q2) ?_
      rw [show 9 - k = (9 - (k + 1)) + 1 by omega, lc_s, if_pos h1]
      rfl
    have fin : (k = 9 ∨ ¬ (x.toInt < -64 ∨ 63 < x.toInt)) → P_bi (RX0_put ((x &&& (127 : Int64)).toInt32) n sl SH FI FL FR) (fun v3 n3 sl3 SH3 FI3 FL3 FR3 => P_ret () (n3, sl3, SH3, FI3, FL3, FR3)) v s → c_ap n sl SH FI FL FR s (lc_s (9 - k) x.toInt) := by
      intro h1 h
      obtain ⟨v1, n1, sl1, SH1, FI1, FL1, FR1, hc, -, rfl⟩ := h
      have q1 := c_put (b := x.toInt % 128) hQ hc (l_and127 x)
      refine c_ap_cg q1 ?_
      cases h9 : 9 - k with
      | zero => rfl
      | succ z => rw [lc_s, if_neg (by omega)]
    rcases h with ⟨h1, h⟩ | ⟨h1, h⟩
    · rw [hl, c9] at h1
      rcases h with ⟨h2, h⟩ | ⟨h2, h⟩
      · rw [e64] at h2
        exact key (by omega) (Or.inl h2) h
      · rw [e64] at h2
        rcases h with ⟨h3, h⟩ | ⟨h3, h⟩
        · rw [e63] at h3
          exact key (by omega) (Or.inr h3) h
        · rw [e63] at h3
          exact fin (Or.inr (by omega)) h
    · rw [hl, c9] at h1
      exact fin (Or.inl (by omega)) h
theorem c_sleb {a1 : Int64} (hQ : h_S n SH) (h : RX0_putSignedLeb a1 n sl SH FI FL FR v s) : c_ap n sl SH FI FL FR s (lc_s 9 a1.toInt) := by
  obtain ⟨g, h⟩ := h
  exact c_sleb_G hQ g a1 0 FI v s 0 h (by decide) (by omega)
/-- a byte, then a number -/
theorem c_put_num {a : Int32} {a1 : Int64} {a2 : Int32} {b : Int} {m : Nat} (hQ : h_S n SH) (h : P_bi (RX0_put a n sl SH FI FL FR) (fun v4 n4 sl4 SH4 FI4 FL4 FR4 => P_bi (RX0_putNumber a1 a2 n4 sl4 SH4 FI4 FL4 FR4) (fun v5 n5 sl5 SH5 FI5 FL5 FR5 => P_ret () (n5, sl5, SH5, FI5, FL5, FR5))) v s) (hb : a.toInt % 256 = b) (h0 : 0 ≤ a1.toInt) (hm : a2.toInt = m) (h8 : m ≤ 8) : c_ap n sl SH FI FL FR s (b :: lc_by a1.toInt m) := by
  obtain ⟨v1, n1, sl1, SH1, FI1, FL1, FR1, hc, v2, n2, sl2, SH2, FI2, FL2, FR2, hc2, -, rfl⟩ := h
  have q1 := c_put hQ hc hb
  have q1' := q1
  obtain ⟨F2, e, -⟩ := q1'
  cases e
  exact c_ap_t q1 (c_num hQ hc2 h0 hm h8)
theorem c_const {a1 : Int64} (hQ : h_S n SH) (h : RX0_putConstant a1 n sl SH FI FL FR v s) (h0 : 0 ≤ a1.toInt) : c_ap n sl SH FI FL FR s (lc_c a1.toInt) := by
  have c1 : ((31 : Int64)).toInt = 31 := by decide
  have c2 : ((255 : Int64)).toInt = 255 := by decide
  have c3 : ((65535 : Int64)).toInt = 65535 := by decide
  have c4 : ((4294967295 : Int64)).toInt = 4294967295 := by decide
  unfold lc_c
  rcases h with ⟨h1, h⟩ | ⟨h1, h⟩
  · rw [c1] at h1
    rw [if_neg (by omega)]
    rcases h with ⟨h2, h⟩ | ⟨h2, h⟩
    · rw [c2] at h2
      rw [if_neg (by omega)]
      rcases h with ⟨h3, h⟩ | ⟨h3, h⟩
      · rw [c3] at h3
        rw [if_neg (by omega)]
        rcases h with ⟨h4, h⟩ | ⟨h4, h⟩
        · rw [c4] at h4
          rw [if_neg (by omega)]
          exact c_put_num hQ h (by decide) h0 (by decide) (by omega)
        · rw [c4] at h4
          rw [if_pos (by omega)]
          exact c_put_num hQ h (by decide) h0 (by decide) (by omega)
      · rw [c3] at h3
        rw [if_pos (by omega)]
        exact c_put_num hQ h (by decide) h0 (by decide) (by omega)
    · rw [c2] at h2
      rw [if_pos (by omega)]
      exact c_put_num hQ h (by decide) h0 (by decide) (by omega)
  · rw [c1] at h1
    rw [if_pos (by omega)]
    obtain ⟨v1, n1, sl1, SH1, FI1, FL1, FR1, hc, -, rfl⟩ := h
    have e : ((48 : Int32) + a1.toInt32).toInt = 48 + a1.toInt := i_add (by decide : ((48 : Int32)).toInt = 48) (by rw [Int64.toInt_toInt32, Int.bmod_def]; split <;> omega) (by omega) (by omega)
    exact c_put hQ hc (by rw [e]; omega)
/-- % r or fb, and what is added to it -/
theorem c_based {c : Nat} {p : Int64} (hQ : h_S n SH) (h : RX0_putBased (some c) p n sl SH FI FL FR v s) (hk : (FI c 0).toInt = 11 ∨ (FI c 0).toInt = 37) (hr : n_rg (FI c 0).toInt (FL c 1).toInt = true) : c_ap n sl SH FI FL FR s (n_bs (FI c 0).toInt (FL c 1).toInt p.toInt) := by
  have c37 : ((37 : Int32)).toInt = 37 := by decide
  have hg : ((FI c 0).toInt = 5 → 0 ≤ (FL c 1).toInt ∧ (FL c 1).toInt ≤ 999999999999999999) ∧ ((FI c 0).toInt = 37 → 0 ≤ (FL c 1).toInt ∧ (FL c 1).toInt ≤ 31) ∧ ((FI c 0).toInt = 6 → 1 ≤ (FL c 1).toInt ∧ (FL c 1).toInt ≤ 8) := of_decide_eq_true hr
  obtain ⟨c1, e1, h⟩ := h
  cases e1
  unfold n_bs
  rcases h with ⟨h1, h⟩ | ⟨h1, h⟩
  · rw [c37] at h1
    have hw := hg.2.1 h1
    obtain ⟨c3, e3, h⟩ := h
    cases e3
    obtain ⟨v1, n1, sl1, SH1, FI1, FL1, FR1, hc, v2, n2, sl2, SH2, FI2, FL2, FR2, hc2, -, rfl⟩ := h
    have e : ((112 : Int32) + (FL c 1).toInt32).toInt = 112 + (FL c 1).toInt := i_add (by decide : ((112 : Int32)).toInt = 112) (by rw [Int64.toInt_toInt32, Int.bmod_def]; split <;> omega) (by omega) (by omega)
    have q1 := c_put (b := 112 + (FL c 1).toInt) hQ hc (by rw [e]; omega)
    have q1' := q1
    obtain ⟨F2, e, -⟩ := q1'
    cases e
    rw [if_pos h1]
    exact c_ap_t q1 (c_sleb hQ hc2)
  · rw [c37] at h1
    obtain ⟨v1, n1, sl1, SH1, FI1, FL1, FR1, hc, v2, n2, sl2, SH2, FI2, FL2, FR2, hc2, -, rfl⟩ := h
    have q1 := c_put (b := 145) hQ hc (by decide)
    have q1' := q1
    obtain ⟨F2, e, -⟩ := q1'
    cases e
    rw [if_neg h1]
    exact c_ap_t q1 (c_sleb hQ hc2)
theorem c_un {c : Nat} (hQ : h_S n SH) (h : RX0_putUnary (some c) n sl SH FI FL FR v s) (hr : n_rg (FI c 0).toInt (FL c 1).toInt = true) : c_ap n sl SH FI FL FR s (n_un (FI c 0).toInt (FL c 1).toInt) := by
  have c8 : ((8 : Int64)).toInt = 8 := by decide
  have hg : ((FI c 0).toInt = 5 → 0 ≤ (FL c 1).toInt ∧ (FL c 1).toInt ≤ 999999999999999999) ∧ ((FI c 0).toInt = 37 → 0 ≤ (FL c 1).toInt ∧ (FL c 1).toInt ≤ 31) ∧ ((FI c 0).toInt = 6 → 1 ≤ (FL c 1).toInt ∧ (FL c 1).toInt ≤ 8) := of_decide_eq_true hr
  obtain ⟨c1, e1, h⟩ := h
  cases e1
  unfold n_un
  rcases h with ⟨h1, h⟩ | ⟨h1, h⟩
  · have hw := hg.2.2 h1
    rw [if_pos h1]
    obtain ⟨c3, e3, h⟩ := h
    cases e3
    rcases h with ⟨h2, h⟩ | ⟨h2, h⟩
    · rw [c8] at h2
      rw [if_pos h2]
      obtain ⟨v1, n1, sl1, SH1, FI1, FL1, FR1, hc, -, rfl⟩ := h
      exact c_put hQ hc (by decide)
    · rw [c8] at h2
      rw [if_neg h2]
      obtain ⟨v1, n1, sl1, SH1, FI1, FL1, FR1, hc, c7, e7, v2, n2, sl2, SH2, FI2, FL2, FR2, hc2, -, rfl⟩ := h
      cases e7
      have q1 := c_put (b := 148) hQ hc (by decide)
      have q1' := q1
      obtain ⟨F2, e, -⟩ := q1'
      cases e
      exact c_ap_t q1 (c_put (b := (FL c 1).toInt) hQ hc2 (by rw [l_i_m256]; omega))
  · rw [if_neg h1]
    rcases h with ⟨h2, h⟩ | ⟨h2, h⟩
    · rw [if_pos h2]
      obtain ⟨v1, n1, sl1, SH1, FI1, FL1, FR1, hc, -, rfl⟩ := h
      exact c_put hQ hc (by decide)
    · rw [if_neg h2]
      rcases h with ⟨h3, h⟩ | ⟨h3, h⟩
      · rw [if_pos h3]
        obtain ⟨v1, n1, sl1, SH1, FI1, FL1, FR1, hc, -, rfl⟩ := h
        exact c_put hQ hc (by decide)
      · rw [if_neg h3]
        rcases h with ⟨h4, h⟩ | ⟨h4, h⟩
        · rw [if_pos h4]
          obtain ⟨v1, n1, sl1, SH1, FI1, FL1, FR1, hc, -, rfl⟩ := h
          exact c_put hQ hc (by decide)
        · rw [if_neg h4]
          obtain ⟨-, rfl⟩ := h
          exact c_ap_0
end CP
end
section
/-! THE CLASS'S CODER over a tree: putNode, putChoice, putChain write n_cd's bytes. -/
theorem n_nx_ag {FI F2 : Nat → Nat → Int32} {FL : Nat → Nat → Int64} {FR : Nat → Nat → Option Nat} {c : Nat} (h : ∀ c k, 176 ≤ c → F2 c k = FI c k) (hc : 176 ≤ c) : n_nx F2 FL FR c = n_nx FI FL FR c := by
  unfold n_nx
  rw [h c 0 hc]
  by_cases h1 : (FI c 0).toInt = 37 ∨ (FI c 0).toInt = 11
  · rw [if_pos h1, if_pos h1]
    cases FR c 6 with
    | none => rfl
    | some e =>
      dsimp only
      by_cases he : 176 ≤ e
      · rw [h e 0 he, h e 2 he]
      · rw [if_neg (fun x => he x.1), if_neg (fun x => he x.1)]
  · rw [if_neg h1, if_neg h1]
theorem n_nx_ge {FI : Nat → Nat → Int32} {FL : Nat → Nat → Int64} {FR : Nat → Nat → Option Nat} {c e : Nat} (h : n_nx FI FL FR c = some e) : 176 ≤ e := by
  unfold n_nx at h
  by_cases h1 : (FI c 0).toInt = 37 ∨ (FI c 0).toInt = 11
  · rw [if_pos h1] at h
    cases h6 : FR c 6 with
    | none => rw [h6] at h; cases h
    | some e2 =>
      rw [h6] at h
      dsimp only at h
      by_cases h2 : 176 ≤ e2 ∧ (FI e2 0).toInt = 5 ∧ ((FI e2 2).toInt = 43 ∨ (FI e2 2).toInt = 45) ∧ n_rg (FI e2 0).toInt (FL e2 1).toInt = true
      · rw [if_pos h2] at h
        cases h
        exact h2.1
      · rw [if_neg h2] at h
        cases h
  · rw [if_neg h1] at h
    cases h
theorem n_cd_ag {FI F2 : Nat → Nat → Int32} {FL : Nat → Nat → Int64} {FR : Nat → Nat → Option Nat} (h : ∀ c k, 176 ≤ c → F2 c k = FI c k) : ∀ (f m : Nat) (o : Option Nat) (d : Int), n_cd F2 FL FR f m o d = n_cd FI FL FR f m o d := by
  intro f
  induction f with
  | zero => intro m o d; rfl
  | succ f ih =>
    intro m o d
    cases o with
    | none => rfl
    | some c =>
      show n_st F2 FL FR (n_cd F2 FL FR f) m c d = n_st FI FL FR (n_cd FI FL FR f) m c d
      have e : n_cd F2 FL FR f = n_cd FI FL FR f := by
        funext m o d
        exact ih m o d
      rw [e]
      unfold n_st
      by_cases hc : c < 176
      · rw [if_pos (Or.inl hc), if_pos (Or.inl hc)]
      · rw [n_nx_ag h (by omega), h c 0 (by omega), h c 2 (by omega)]
        cases hn : n_nx FI FL FR c with
        | none => rfl
        | some e =>
          dsimp only
          rw [h e 2 (n_nx_ge hn)]
theorem i_us8 : ∀ m : Nat, m < 700 → ((((Int32.ofNat m).toUInt32 >>> (((8 : Int32)).toUInt32 &&& Int32.toUInt32 31)).toInt32) &&& ((255 : Int32))).toInt = (m : Int) / 256 % 256 := by decide +kernel
section CQ
variable {n sl : Nat} {SH : Nat → Nat × Nat} {FI : Nat → Nat → Int32} {FL : Nat → Nat → Int64} {FR : Nat → Nat → Option Nat} {v : Unit} {s : hS}
theorem l_mid {B1 B2 : List Int} {u w u2 w2 : Int} {i : Nat} (h1 : i ≠ B1.length) (h2 : i ≠ B1.length + 1) : (B1 ++ u :: w :: B2).getD i 0 = (B1 ++ u2 :: w2 :: B2).getD i 0 := by
  rcases Nat.lt_or_ge i B1.length with h | h
  · rw [l_getD_app h, l_getD_app h]
  · obtain ⟨j, rfl⟩ := Nat.exists_eq_add_of_le h
    simp only [List.getD_eq_getElem?_getD]
    rw [List.getElem?_append_right (by omega), List.getElem?_append_right (by omega)]
    rw [show B1.length + j - B1.length = j by omega]
    match j, h1, h2 with
    | 0, h1, _ => exact absurd rfl h1
    | 1, _, h2 => exact absurd rfl h2
    | j + 2, _, _ => rfl
theorem c_patch {a1 a2 : Int32} (hQ : h_S n SH) (h : RX0_patch a1 a2 n sl SH FI FL FR v s) : ∃ F2, s = (n, sl, SH, F2, FL, FR) ∧ c_fr FI F2 ∧ (∀ B1 u w B2 m, c_vw FI (B1 ++ u :: w :: B2) → a1 = Int32.ofNat B1.length → a2 = Int32.ofNat m → ((B1 ++ u :: w :: B2).length ≤ 600 → m < 700) → c_vw F2 (B1 ++ (lc_by m 2 ++ B2))) := by
  have hz : (Int32.ofNat (SH 120).2).toInt = 600 := by rw [s120 hQ]; decide
  have hlen : ∀ (B1 B2 : List Int) (u w : Int) (m : Nat), (B1 ++ (lc_by m 2 ++ B2)).length = (B1 ++ u :: w :: B2).length := by
    intro B1 B2 u w m
    simp [lc_by]
  have hl2 : ∀ (B1 B2 : List Int) (u w : Int), (B1 ++ u :: w :: B2).length = B1.length + (B2.length + 2) := by
    intro B1 B2 u w
    simp
  rcases h with ⟨h1, h⟩ | ⟨h1, h⟩
  · obtain ⟨-, rfl⟩ := h
    refine ⟨FI, rfl, fun _ _ _ _ => rfl, fun B1 u w B2 m hv ha hb hm => ⟨by rw [hlen B1 B2 u w m]; exact hv.1, fun hl i hi => ?_⟩⟩
    exfalso
    rw [hlen B1 B2 u w m, hl2] at hl
    rw [ha, i_lit (by omega)] at h1
    omega
  · rcases h with ⟨h2, h⟩ | ⟨h2, h⟩
    · obtain ⟨-, -, -, rfl⟩ := h
      refine ⟨_, rfl, fun c k g1 g2 => by rw [h_up_nc g2, h_up_nc g2], fun B1 u w B2 m hv ha hb hm => ⟨by rw [hlen B1 B2 u w m, h_up_nc (by decide), h_up_nc (by decide)]; exact hv.1, fun hl i hi => ?_⟩⟩
      rw [hlen B1 B2 u w m] at hl hi
      have hm7 := hm hl
      rw [hl2] at hl hi
      have e1 : a1.toInt = B1.length := by rw [ha, i_lit (by omega)]
      have e2 : (a1 + (1 : Int32)).toInt = B1.length + 1 := i_add e1 (by decide : ((1 : Int32)).toInt = 1) (by omega) (by omega)
      have n1 : a1.toInt.toNat = B1.length := by omega
      have n2 : (a1 + (1 : Int32)).toInt.toNat = B1.length + 1 := by omega
      rw [n1, n2]
      have el : lc_by m 2 ++ B2 = (m : Int) % 256 :: (m : Int) / 256 % 256 :: B2 := rfl
      rw [el]
      by_cases g1 : i = B1.length + 1
      · subst g1
        rw [h_up_eq, hb, i_us8 m hm7]
        simp
      · rw [h_up_ne g1]
        by_cases g2 : i = B1.length
        · subst g2
          rw [h_up_eq, i_m255, hb, i_lit (by omega)]
          simp
        · rw [h_up_ne g2, hv.2 (by rw [hl2]; omega) i (by rw [hl2]; omega)]
          exact l_mid g2 g1
    · obtain ⟨-, rfl⟩ := h
      refine ⟨FI, rfl, fun _ _ _ _ => rfl, fun B1 u w B2 m hv ha hb hm => ⟨by rw [hlen B1 B2 u w m]; exact hv.1, fun hl i hi => ?_⟩⟩
      exfalso
      rw [hlen B1 B2 u w m, hl2] at hl
      have e1 : a1.toInt = B1.length := by rw [ha, i_lit (by omega)]
      have e2 : (a1 + (1 : Int32)).toInt = B1.length + 1 := i_add e1 (by decide : ((1 : Int32)).toInt = 1) (by omega) (by omega)
      rw [e2, hz] at h2
      omega
/-- what a run of putNode writes, by n_cd's fuel -/
def c_hN (n sl : Nat) (SH : Nat → Nat × Nat) (FL : Nat → Nat → Int64) (FR : Nat → Nat → Option Nat) (f : Nat) (M : Option Nat → Int32 → Nat → Nat → (Nat → Nat × Nat) → (Nat → Nat → Int32) → (Nat → Nat → Int64) → (Nat → Nat → Option Nat) → Unit → hS → Prop) : Prop := ∀ (o : Option Nat) (a2 : Int32) (d : Int) (FI : Nat → Nat → Int32) (v : Unit) (s : hS) (A : List Int), M o a2 n sl SH FI FL FR v s → a2.toInt = d → 0 ≤ d → d ≤ 121 → n_cd FI FL FR f 0 o d = some A → c_ap n sl SH FI FL FR s A
theorem c_fr_t {F1 F2 F3 : Nat → Nat → Int32} (h : c_fr F1 F2) (h2 : c_fr F2 F3) : c_fr F1 F3 := fun c k g1 g2 => (h2 c k g1 g2).trans (h c k g1 g2)
theorem c_fr_n {F1 F2 : Nat → Nat → Int32} (h : c_fr F1 F2) : ∀ c k, 176 ≤ c → F2 c k = F1 c k := fun c k g => h c k (by omega) (by omega)
theorem i_dist {p q : Nat} {x y : Int32} (hx : x = Int32.ofNat (p + (q + 2))) (hy : y = Int32.ofNat p) : (x - y) - (2 : Int32) = Int32.ofNat q := by
  rw [hx, hy, Int32.ofNat_add, Int32.ofNat_add]
  apply Int32.toBitVec_inj.mp
  show (Int32.ofNat p).toBitVec + ((Int32.ofNat q).toBitVec + 2#32) - (Int32.ofNat p).toBitVec - 2#32 = (Int32.ofNat q).toBitVec
  generalize (Int32.ofNat p).toBitVec = P
  generalize (Int32.ofNat q).toBitVec = Q
  rw [← BitVec.add_assoc, BitVec.add_comm P Q, BitVec.add_assoc, BitVec.add_comm P, ← BitVec.add_assoc]
  rw [BitVec.add_sub_cancel, BitVec.add_sub_cancel]
theorem c_choice {f c : Nat} {M M1 M2 : Option Nat → Int32 → Nat → Nat → (Nat → Nat × Nat) → (Nat → Nat → Int32) → (Nat → Nat → Int64) → (Nat → Nat → Option Nat) → Unit → hS → Prop} {a2 : Int32} {d : Int} {x y z : List Int} (hQ : h_S n SH) (hN : c_hN n sl SH FL FR f M) (h : RX0_putChoice M M1 M2 (some c) a2 n sl SH FI FL FR v s) (hd : a2.toInt = d) (h0 : 0 ≤ d) (h1 : d ≤ 120) (hx : n_cd FI FL FR f 0 (FR c 3) (d + 1) = some x) (hy : n_cd FI FL FR f 0 (FR c 4) (d + 1) = some y) (hz : n_cd FI FL FR f 0 (FR c 5) (d + 1) = some z) : c_ap n sl SH FI FL FR s (x ++ lc_ch y z) := by
  have hd1 : (a2 + (1 : Int32)).toInt = d + 1 := i_add hd (by decide : ((1 : Int32)).toInt = 1) (by omega) (by omega)
  obtain ⟨c1, e1, v1, n1, sl1, SH1, FI1, FL1, FR1, k1, v2, n2, sl2, SH2, FI2, FL2, FR2, k2, v3, n3, sl3, SH3, FI3, FL3, FR3, k3, c5, e5, v5, n5, sl5, SH5, FI5, FL5, FR5, k5, v6, n6, sl6, SH6, FI6, FL6, FR6, k6, v7, n7, sl7, SH7, FI7, FL7, FR7, k7, v8, n8, sl8, SH8, FI8, FL8, FR8, k8, c10, e10, v10, n10, sl10, SH10, FI10, FL10, FR10, k10, v11, n11, sl11, SH11, FI11, FL11, FR11, k11, -, rfl⟩ := h
  cases e1
  cases e5
  cases e10
  obtain ⟨G1, e, r1, p1⟩ := hN _ _ _ _ _ _ _ k1 hd1 (by omega) (by omega) hx
  cases e
  obtain ⟨G2, e, r2, p2⟩ := c_put (b := 40) hQ k2 (by decide)
  cases e
  obtain ⟨G3, e, r3, p3⟩ := c_num (m := 2) hQ k3 (by decide) (by decide) (by omega)
  cases e
  have f3 := c_fr_t (c_fr_t r1 r2) r3
  obtain ⟨G5, e, r5, p5⟩ := hN _ _ _ _ _ _ _ k5 hd1 (by omega) (by omega) ((n_cd_ag (c_fr_n f3) _ _ _ _).trans hz)
  cases e
  obtain ⟨G6, e, r6, p6⟩ := c_put (b := 47) hQ k6 (by decide)
  cases e
  obtain ⟨G7, e, r7, p7⟩ := c_num (m := 2) hQ k7 (by decide) (by decide) (by omega)
  cases e
  obtain ⟨G8, e, r8, p8⟩ := c_patch hQ k8
  cases e
  have f8 := c_fr_t (c_fr_t (c_fr_t (c_fr_t f3 r5) r6) r7) r8
  obtain ⟨G10, e, r10, p10⟩ := hN _ _ _ _ _ _ _ k10 hd1 (by omega) (by omega) ((n_cd_ag (c_fr_n f8) _ _ _ _).trans hy)
  cases e
  obtain ⟨G11, e, r11, p11⟩ := c_patch hQ k11
  cases e
  refine ⟨_, rfl, c_fr_t (c_fr_t f8 r10) r11, fun B hB => ?_⟩
  have b1 := p1 B hB
  have b2 := p2 _ b1
  have b3 := p3 _ b2
  have b5 := p5 _ b3
  have b6 := p6 _ b5
  have b7 := p7 _ b6
  have z2 : lc_by ((0 : Int64)).toInt 2 = [0, 0] := by decide
  rw [z2] at b3 b5 b6 b7
  -- the first distance
  have s7 : (B ++ x ++ [40] ++ [0, 0] ++ z ++ [47] ++ [0, 0]) = (B ++ x ++ [40]) ++ 0 :: 0 :: (z ++ [47, 0, 0]) := by simp
  rw [s7] at b7
  have b8 := p8 _ _ _ _ (z.length + 3) b7 b2.1 (i_dist (by rw [b7.1]; congr 1; simp; omega) b2.1) (fun hl => by simp at hl; omega)
  have b10 := p10 _ b8
  -- the second
  have s10 : (B ++ x ++ [40]) ++ (lc_by ((z.length + 3 : Nat) : Int) 2 ++ (z ++ [47, 0, 0])) ++ y = ((B ++ x ++ [40]) ++ (lc_by ((z.length + 3 : Nat) : Int) 2 ++ (z ++ [47]))) ++ 0 :: 0 :: y := by simp
  rw [s10] at b10
  have hl6 : FI6 119 1 = Int32.ofNat ((B ++ x ++ [40]) ++ (lc_by ((z.length + 3 : Nat) : Int) 2 ++ (z ++ [47]))).length := by
    rw [b6.1]
    congr 1
    simp [lc_by]
    try omega
  have b11 := p11 _ _ _ _ y.length b10 hl6 (i_dist (by rw [b10.1]; congr 1; simp; omega) hl6) (fun hl => by simp at hl; omega)
  have s11 : B ++ (x ++ lc_ch y z) = ((B ++ x ++ [40]) ++ (lc_by ((z.length + 3 : Nat) : Int) 2 ++ (z ++ [47]))) ++ (lc_by (y.length : Nat) 2 ++ y) := by
    unfold lc_ch
    simp
  rw [s11]
  exact b11
end CQ
end
section
/-! putNode and putChain. -/
section CR
variable {n sl : Nat} {SH : Nat → Nat × Nat} {FI : Nat → Nat → Int32} {FL : Nat → Nat → Int64} {FR : Nat → Nat → Option Nat} {v : Unit} {s : hS}
theorem i_ite {p : Prop} [Decidable p] {a b : Int32} : (if p then a else b).toInt = if p then a.toInt else b.toInt := by split <;> rfl
theorem c_op {a : Int32} : (fX4_operationOf a SH FI FL FR).toInt = n_op a.toInt := by
  unfold fX4_operationOf n_op
  rw [i_ite, i_ite, i_ite, i_ite, i_ite, i_ite, i_ite, i_ite, i_ite, i_ite, i_ite, i_ite, i_ite, i_ite, i_ite, i_ite]
  rfl
theorem n_op_rg (k : Int) : 26 ≤ n_op k ∧ n_op k ≤ 46 := by
  unfold n_op
  repeat' split
  all_goals omega
theorem c_isBased {a : Nat} {w : Int32} (h : RX0_isBased (some a) n sl SH FI FL FR w s) : s = (n, sl, SH, FI, FL, FR) ∧ (w.toInt = 0 ↔ ¬ ((FI a 0).toInt = 37 ∨ (FI a 0).toInt = 11)) := by
  have c37 : ((37 : Int32)).toInt = 37 := by decide
  have c11 : ((11 : Int32)).toInt = 11 := by decide
  obtain ⟨c1, e1, h⟩ := h
  cases e1
  rcases h with ⟨h1, rfl, rfl⟩ | ⟨h1, c3, e3, h⟩
  · rw [c37] at h1
    exact ⟨rfl, fun h => absurd h (by decide), fun h => absurd (Or.inl h1) h⟩
  · cases e3
    rw [c37] at h1
    rcases h with ⟨h2, rfl, rfl⟩ | ⟨h2, rfl, rfl⟩
    · rw [c11] at h2
      exact ⟨rfl, fun h => absurd h (by decide), fun h => absurd (Or.inr h2) h⟩
    · rw [c11] at h2
      exact ⟨rfl, fun _ h => by rcases h with h | h; exact h1 h; exact h2 h, fun _ => by decide⟩
theorem c_isPlain {o : Option Nat} {w : Int32} (h : RX0_isPlainTerm o n sl SH FI FL FR w s) : s = (n, sl, SH, FI, FL, FR) ∧ ((w.toInt = 0 ∧ ∀ e, o = some e → ¬ ((FI e 0).toInt = 5 ∧ ((FI e 2).toInt = 43 ∨ (FI e 2).toInt = 45))) ∨ (w.toInt ≠ 0 ∧ ∃ e, o = some e ∧ (FI e 0).toInt = 5 ∧ ((FI e 2).toInt = 43 ∨ (FI e 2).toInt = 45))) := by
  have c5 : ((5 : Int32)).toInt = 5 := by decide
  have c43 : ((43 : Int32)).toInt = 43 := by decide
  have c45 : ((45 : Int32)).toInt = 45 := by decide
  rcases h with ⟨h1, rfl, rfl⟩ | ⟨-, c2, e2, h⟩
  · refine ⟨rfl, Or.inl ⟨by decide, fun e he => ?_⟩⟩
    rw [h1] at he
    cases he
  · subst e2
    rcases h with ⟨h2, c4, e4, h⟩ | ⟨h2, rfl, rfl⟩
    · cases e4
      rw [c5] at h2
      rcases h with ⟨h3, rfl, rfl⟩ | ⟨h3, c6, e6, h⟩
      · rw [c43] at h3
        exact ⟨rfl, Or.inr ⟨by decide, _, rfl, h2, Or.inl h3⟩⟩
      · cases e6
        rw [c43] at h3
        rcases h with ⟨h4, rfl, rfl⟩ | ⟨h4, rfl, rfl⟩
        · rw [c45] at h4
          exact ⟨rfl, Or.inr ⟨by decide, _, rfl, h2, Or.inr h4⟩⟩
        · rw [c45] at h4
          refine ⟨rfl, Or.inl ⟨by decide, fun e he h => ?_⟩⟩
          cases he
          rcases h.2 with h5 | h5
          · exact h3 h5
          · exact h4 h5
    · rw [c5] at h2
      refine ⟨rfl, Or.inl ⟨by decide, fun e he h => ?_⟩⟩
      cases he
      exact h2 h.1
/-- the rest of a chain -/
def c_hR (n sl : Nat) (SH : Nat → Nat × Nat) (FL : Nat → Nat → Int64) (FR : Nat → Nat → Option Nat) (f : Nat) : Prop := ∀ (g gl : Nat) (o a1 : Option Nat) (a2 : Int32) (d : Int) (FI : Nat → Nat → Int32) (v : Unit) (s : hS) (A : List Int), GX0_putChain_82 (fun a1 a2 n sl SH FI FL FR => QX0 g 0 a1 a2 n sl SH FI FL FR) (fun a1 a2 n sl SH FI FL FR => QX0 g 1 a1 a2 n sl SH FI FL FR) (fun a1 a2 n sl SH FI FL FR => QX0 g 2 a1 a2 n sl SH FI FL FR) a1 a2 gl o n sl SH FI FL FR v s → a2.toInt = d → 0 ≤ d → d ≤ 120 → n_cd FI FL FR f 1 o d = some A → c_ap n sl SH FI FL FR s A
/-- a chain from its first on -/
def c_hC (n sl : Nat) (SH : Nat → Nat × Nat) (FL : Nat → Nat → Int64) (FR : Nat → Nat → Option Nat) (f : Nat) : Prop := ∀ (g c : Nat) (a2 : Int32) (d : Int) (FI : Nat → Nat → Int32) (v : Unit) (s : hS) (A : List Int), RX0_putChain (fun a1 a2 n sl SH FI FL FR => QX0 g 0 a1 a2 n sl SH FI FL FR) (fun a1 a2 n sl SH FI FL FR => QX0 g 1 a1 a2 n sl SH FI FL FR) (fun a1 a2 n sl SH FI FL FR => QX0 g 2 a1 a2 n sl SH FI FL FR) (some c) a2 n sl SH FI FL FR v s → a2.toInt = d → 0 ≤ d → d ≤ 120 → n_cd FI FL FR f 2 (FR c 3) d = some A → c_ap n sl SH FI FL FR s A
theorem c_tree (hQ : h_S n SH) : ∀ f : Nat, (∀ g, c_hN n sl SH FL FR f (fun a1 a2 n sl SH FI FL FR => QX0 g 0 a1 a2 n sl SH FI FL FR)) ∧ c_hR n sl SH FL FR f ∧ c_hC n sl SH FL FR f := by
  intro f
  induction f with
  | zero =>
    refine ⟨?_, ?_, ?_⟩
    · intro g o a2 d FI v s A _ _ _ _ hA; cases hA
    · intro g gl o a1 a2 d FI v s A _ _ _ _ hA; cases hA
    · intro g c a2 d FI v s A _ _ _ _ hA; cases hA
  | succ f ih =>
    obtain ⟨i0, i1, i2⟩ := ih
    refine ⟨?_, ?_, ?_⟩
    · -- a node
      intro g o a2 d FI v s A h hd h0 h1 hA
      have c120 : ((120 : Int32)).toInt = 120 := by decide
      cases g with
      | zero => exact h.elim
      | succ g =>
        rcases h with ⟨k1, h⟩ | ⟨k1, h⟩
        · subst k1
          obtain ⟨-, rfl⟩ := h
          have hA : (none : Option (List Int)) = some A := hA
          cases hA
        · cases o with
          | none => exact absurd rfl k1
          | some c =>
            have ok := n_cd_ok hA
            have hA2 : n_st FI FL FR (n_cd FI FL FR f) 0 c d = some A := hA
            unfold n_st at hA2
            rw [if_neg (by rw [ok.2]; simp; omega), if_pos rfl] at hA2
            rcases h with ⟨k2, h⟩ | ⟨k2, h⟩
            · rw [c120, hd] at k2
              obtain ⟨-, rfl⟩ := h
              rw [if_pos k2] at hA2
              cases hA2
            · rw [c120, hd] at k2
              rw [if_neg k2] at hA2
              have hg : ((FI c 0).toInt = 5 → 0 ≤ (FL c 1).toInt ∧ (FL c 1).toInt ≤ 999999999999999999) ∧ ((FI c 0).toInt = 37 → 0 ≤ (FL c 1).toInt ∧ (FL c 1).toInt ≤ 31) ∧ ((FI c 0).toInt = 6 → 1 ≤ (FL c 1).toInt ∧ (FL c 1).toInt ≤ 8) := of_decide_eq_true ok.2
              obtain ⟨c3, e3, h⟩ := h
              cases e3
              rcases h with ⟨k3, h⟩ | ⟨k3, h⟩
              · rw [if_pos k3] at hA2
                obtain ⟨c5, e5, v5, n5, sl5, SH5, FI5, FL5, FR5, hc, -, rfl⟩ := h
                cases e5
                rw [← Option.some.inj hA2]
                exact c_const hQ hc (hg.1 k3).1
              · rw [if_neg k3] at hA2
                rcases h with ⟨k4, h⟩ | ⟨k4, h⟩
                · rw [if_pos k4] at hA2
                  obtain ⟨v5, n5, sl5, SH5, FI5, FL5, FR5, hc, -, rfl⟩ := h
                  rw [← Option.some.inj hA2]
                  exact c_based (p := 0) hQ hc k4 ok.2
                · rw [if_neg k4] at hA2
                  rcases h with ⟨k5, h⟩ | ⟨k5, h⟩
                  · rw [if_pos k5] at hA2
                    obtain ⟨v5, n5, sl5, SH5, FI5, FL5, FR5, hc, -, rfl⟩ := h
                    rw [← Option.some.inj hA2]
                    exact c_put hQ hc (by decide)
                  · rw [if_neg k5] at hA2
                    rcases h with ⟨k6, h⟩ | ⟨k6, h⟩
                    · rw [if_pos k6] at hA2
                      obtain ⟨v5, n5, sl5, SH5, FI5, FL5, FR5, hc, -, rfl⟩ := h
                      rw [← Option.some.inj hA2]
                      exact c_put hQ hc (by decide)
                    · rw [if_neg k6] at hA2
                      rcases h with ⟨k7, h⟩ | ⟨k7, h⟩
                      · rw [if_pos k7] at hA2
                        by_cases hq : 120 ≤ d
                        · rw [if_pos hq] at hA2; cases hA2
                        rw [if_neg hq] at hA2
                        obtain ⟨v5, n5, sl5, SH5, FI5, FL5, FR5, hc, -, rfl⟩ := h
                        cases g with
                        | zero => exact hc.elim
                        | succ g => exact i2 g c a2 d FI _ _ A hc hd h0 (by omega) hA2
                      · rw [if_neg k7] at hA2
                        rcases h with ⟨k8, h⟩ | ⟨k8, h⟩
                        · rw [if_pos k8] at hA2
                          obtain ⟨v5, n5, sl5, SH5, FI5, FL5, FR5, hc, -, rfl⟩ := h
                          obtain ⟨x, yz, q1, q2, q3⟩ := o2_some hA2
                          obtain ⟨y, z, q4, q5, q6⟩ := o2_some q2
                          rw [← q3, ← q6]
                          cases g with
                          | zero => exact hc.elim
                          | succ g => exact c_choice hQ (i0 g) hc hd h0 (by omega) q1 q4 q5
                        · rw [if_neg k8] at hA2
                          obtain ⟨c17, e17, v5, n5, sl5, SH5, FI5, FL5, FR5, hc, v6, n6, sl6, SH6, FI6, FL6, FR6, hc2, -, rfl⟩ := h
                          cases e17
                          obtain ⟨a, q1, q2⟩ := om_some hA2
                          rw [← q2]
                          have w1 := i0 g _ _ (d + 1) FI _ _ a hc (i_add hd (by decide : ((1 : Int32)).toInt = 1) (by omega) (by omega)) (by omega) (by omega) q1
                          have w1' := w1
                          obtain ⟨F2, e, r1, -⟩ := w1'
                          cases e
                          have e0 : FI5 c 0 = FI c 0 := c_fr_n r1 c 0 ok.1
                          have w2 := c_un hQ hc2 (by rw [e0]; exact ok.2)
                          rw [e0] at w2
                          exact c_ap_t w1 w2
    · -- the rest of a chain
      intro g gl o a1 a2 d FI v s A h hd h0 h1 hA
      have c43 : ((43 : Int32)).toInt = 43 := by decide
      have c5 : ((5 : Int32)).toInt = 5 := by decide
      cases gl with
      | zero => exact h.elim
      | succ gl =>
        rcases h with ⟨k1, h⟩ | ⟨k1, h⟩
        · subst k1
          obtain ⟨-, rfl⟩ := h
          have e : [] = A := Option.some.inj hA
          rw [← e]
          exact c_ap_0
        · cases o with
          | none => exact absurd rfl k1
          | some c =>
            have ok := n_cd_ok hA
            have hg : ((FI c 0).toInt = 5 → 0 ≤ (FL c 1).toInt ∧ (FL c 1).toInt ≤ 999999999999999999) ∧ ((FI c 0).toInt = 37 → 0 ≤ (FL c 1).toInt ∧ (FL c 1).toInt ≤ 31) ∧ ((FI c 0).toInt = 6 → 1 ≤ (FL c 1).toInt ∧ (FL c 1).toInt ≤ 8) := of_decide_eq_true ok.2
            have hA2 : n_st FI FL FR (n_cd FI FL FR f) 1 c d = some A := hA
            unfold n_st at hA2
            rw [if_neg (by rw [ok.2]; simp; omega), if_neg (by decide), if_pos rfl] at hA2
            obtain ⟨c2, e2, h⟩ := h
            cases e2
            have plain : ¬ ((FI c 2).toInt = 43 ∧ (FI c 0).toInt = 5) → RX0_putChain_124 (GX0_putChain_82 (fun a1 a2 n sl SH FI FL FR => QX0 g 0 a1 a2 n sl SH FI FL FR) (fun a1 a2 n sl SH FI FL FR => QX0 g 1 a1 a2 n sl SH FI FL FR) (fun a1 a2 n sl SH FI FL FR => QX0 g 2 a1 a2 n sl SH FI FL FR) a1 a2 gl) (fun a1 a2 n sl SH FI FL FR => QX0 g 0 a1 a2 n sl SH FI FL FR) (fun a1 a2 n sl SH FI FL FR => QX0 g 1 a1 a2 n sl SH FI FL FR) (fun a1 a2 n sl SH FI FL FR => QX0 g 2 a1 a2 n sl SH FI FL FR) a1 a2 (some c) n sl SH FI FL FR v s → c_ap n sl SH FI FL FR s A := by
              intro hn h
              rw [if_neg hn] at hA2
              obtain ⟨a, r, q1, q2, q3⟩ := o2_some hA2
              rw [← q3]
              obtain ⟨v5, n5, sl5, SH5, FI5, FL5, FR5, hc, c2, e2, v6, n6, sl6, SH6, FI6, FL6, FR6, hc2, c7, e7, hK⟩ := h
              cases e2
              cases e7
              have w1 := i0 g _ _ (d + 1) FI _ _ a hc (i_add hd (by decide : ((1 : Int32)).toInt = 1) (by omega) (by omega)) (by omega) (by omega) q1
              have w1' := w1
              obtain ⟨F2, e, r1, -⟩ := w1'
              cases e
              have e2 : FI5 c 2 = FI c 2 := c_fr_n r1 c 2 ok.1
              have w2 := c_put (b := n_op (FI c 2).toInt) hQ hc2 (by rw [c_op, e2]; have := n_op_rg (FI c 2).toInt; omega)
              have w2' := w2
              obtain ⟨F3, e, r2, -⟩ := w2'
              cases e
              have w3 := i1 g gl (FR c 6) a1 a2 d FI6 v s r hK hd h0 h1 ((n_cd_ag (c_fr_n (c_fr_t r1 r2)) _ _ _ _).trans q2)
              exact c_ap_t (c_ap_t w1 w2) w3
            rcases h with ⟨k2, h⟩ | ⟨k2, h⟩
            · rw [c43] at k2
              obtain ⟨c4, e4, h⟩ := h
              cases e4
              rcases h with ⟨k3, h⟩ | ⟨k3, h⟩
              · rw [c5] at k3
                rw [if_pos ⟨k2, k3⟩] at hA2
                obtain ⟨r, q1, q2⟩ := om_some hA2
                rw [← q2]
                obtain ⟨v5, n5, sl5, SH5, FI5, FL5, FR5, hc, c2, e2, v6, n6, sl6, SH6, FI6, FL6, FR6, hc2, c7, e7, hK⟩ := h
                cases e2
                cases e7
                have w1 := c_put (b := 35) hQ hc (by decide)
                have w1' := w1
                obtain ⟨F2, e, r1, -⟩ := w1'
                cases e
                have w2 := c_leb hQ hc2 (hg.1 k3).1
                have w2' := w2
                obtain ⟨F3, e, r2, -⟩ := w2'
                cases e
                have w3 := i1 g gl (FR c 6) a1 a2 d FI6 v s r hK hd h0 h1 ((n_cd_ag (c_fr_n (c_fr_t r1 r2)) _ _ _ _).trans q1)
                exact c_ap_t (c_ap_t w1 w2) w3
              · rw [c5] at k3
                exact plain (fun h => k3 h.2) h
            · rw [c43] at k2
              exact plain (fun h => k2 h.1) h
    · -- a chain from its first on
      intro g c a2 d FI v s A h hd h0 h1 hA
      have c45 : ((45 : Int32)).toInt = 45 := by decide
      obtain ⟨c1, e1, h⟩ := h
      cases e1
      rcases h with ⟨k1, h⟩ | ⟨k1, h⟩
      · obtain ⟨-, rfl⟩ := h
        rw [k1] at hA
        have hA : (none : Option (List Int)) = some A := hA
        cases hA
      · obtain ⟨a, ea, v3, n3, sl3, SH3, FI3, FL3, FR3, hb, h⟩ := h
        rw [ea] at hA hb h
        obtain ⟨eb, wb⟩ := c_isBased hb
        cases eb
        have ok := n_cd_ok hA
        have hA2 : n_st FI FL FR (n_cd FI FL FR f) 2 a d = some A := hA
        unfold n_st at hA2
        rw [if_neg (by rw [ok.2]; simp; omega), if_neg (by decide), if_neg (by decide)] at hA2
        have apart : n_nx FI FL FR a = none → ∀ (FRx : Option Nat), FRx = FR a 6 → RX0_putChain_70 (fun a1 a2 n sl SH FI FL FR => QX0 g 0 a1 a2 n sl SH FI FL FR) (fun a1 a2 n sl SH FI FL FR => QX0 g 1 a1 a2 n sl SH FI FL FR) (fun a1 a2 n sl SH FI FL FR => QX0 g 2 a1 a2 n sl SH FI FL FR) (some c) a2 (some a) FRx n sl SH FI FL FR v s → c_ap n sl SH FI FL FR s A := by
          intro hn FRx hx h
          subst hx
          rw [hn] at hA2
          obtain ⟨x, r, q1, q2, q3⟩ := o2_some hA2
          rw [← q3]
          obtain ⟨v5, n5, sl5, SH5, FI5, FL5, FR5, hc, gl, hK⟩ := h
          have w1 := i0 g _ _ (d + 1) FI _ _ x hc (i_add hd (by decide : ((1 : Int32)).toInt = 1) (by omega) (by omega)) (by omega) (by omega) q1
          have w1' := w1
          obtain ⟨F2, e, r1, -⟩ := w1'
          cases e
          have w3 := i1 g gl (FR a 6) (some c) a2 d FI5 v s r hK hd h0 h1 ((n_cd_ag (c_fr_n r1) _ _ _ _).trans q2)
          exact c_ap_t w1 w3
        rcases h with ⟨k2, h⟩ | ⟨k2, h⟩
        · refine apart ?_ _ rfl h
          unfold n_nx
          rw [if_neg (wb.mp k2)]
        · have hbs : (FI a 0).toInt = 37 ∨ (FI a 0).toInt = 11 := Classical.not_not.mp (fun h => k2 (wb.mpr h))
          obtain ⟨v5, n5, sl5, SH5, FI5, FL5, FR5, hp, h⟩ := h
          obtain ⟨ep, wp⟩ := c_isPlain hp
          cases ep
          rcases wp with ⟨p0, pn⟩ | ⟨p0, e, he, pk1, pk2⟩
          · rcases h with ⟨-, h⟩ | ⟨k3, -⟩
            · refine apart ?_ _ rfl h
              unfold n_nx
              rw [if_pos hbs]
              cases e6 : FR a 6 with
              | none => rfl
              | some e =>
                dsimp only
                rw [if_neg (fun h => pn e e6 ⟨h.2.1, h.2.2.1⟩)]
            · exact absurd p0 k3
          · rcases h with ⟨k3, -⟩ | ⟨-, h⟩
            · exact absurd k3 p0
            · -- a number added to what is based
              have okE : 176 ≤ e ∧ n_rg (FI e 0).toInt (FL e 1).toInt = true := by
                rcases Nat.lt_or_ge e 176 with hlt | hge
                · exfalso
                  have hn : n_nx FI FL FR a = none := by
                    unfold n_nx
                    rw [if_pos hbs, he]
                    dsimp only
                    rw [if_neg (fun h => by omega)]
                  rw [hn] at hA2
                  obtain ⟨x, r, q1, q2, q3⟩ := o2_some hA2
                  rw [he] at q2
                  have := (n_cd_ok q2).1
                  omega
                · refine ⟨hge, ?_⟩
                  cases hr : n_rg (FI e 0).toInt (FL e 1).toInt with
                  | true => rfl
                  | false =>
                    exfalso
                    have hn : n_nx FI FL FR a = none := by
                      unfold n_nx
                      rw [if_pos hbs, he]
                      dsimp only
                      rw [if_neg (fun h => by rw [hr] at h; exact absurd h.2.2.2 (by decide))]
                    rw [hn] at hA2
                    obtain ⟨x, r, q1, q2, q3⟩ := o2_some hA2
                    rw [he] at q2
                    have := (n_cd_ok q2).2
                    rw [hr] at this
                    cases this
              have hn : n_nx FI FL FR a = some e := by
                unfold n_nx
                rw [if_pos hbs, he]
                dsimp only
                rw [if_pos ⟨okE.1, pk1, pk2, okE.2⟩]
              rw [hn] at hA2
              obtain ⟨r, q1, q2⟩ := om_some hA2
              rw [← q2]
              have hge : ((FI e 0).toInt = 5 → 0 ≤ (FL e 1).toInt ∧ (FL e 1).toInt ≤ 999999999999999999) ∧ ((FI e 0).toInt = 37 → 0 ≤ (FL e 1).toInt ∧ (FL e 1).toInt ≤ 31) ∧ ((FI e 0).toInt = 6 → 1 ≤ (FL e 1).toInt ∧ (FL e 1).toInt ≤ 8) := of_decide_eq_true okE.2
              have hw := hge.1 pk1
              have fin : ∀ p : Int64, p.toInt = n_sg (FI e 2).toInt (FL e 1).toInt → RX0_putChain_57 (fun a1 a2 n sl SH FI FL FR => QX0 g 0 a1 a2 n sl SH FI FL FR) (fun a1 a2 n sl SH FI FL FR => QX0 g 1 a1 a2 n sl SH FI FL FR) (fun a1 a2 n sl SH FI FL FR => QX0 g 2 a1 a2 n sl SH FI FL FR) (some c) a2 (FR a 6) p (some a) n sl SH FI FL FR v s → c_ap n sl SH FI FL FR s (n_bs (FI a 0).toInt (FL a 1).toInt (n_sg (FI e 2).toInt (FL e 1).toInt) ++ r) := by
                intro p hp h
                obtain ⟨v5, n5, sl5, SH5, FI5, FL5, FR5, hc, c2, e2, gl, hK⟩ := h
                rw [he] at e2
                cases e2
                have w1 := c_based hQ hc hbs.symm ok.2
                rw [hp] at w1
                have w1' := w1
                obtain ⟨F2, e4, r1, -⟩ := w1'
                cases e4
                exact c_ap_t w1 (i1 g gl _ (some c) a2 d FI5 v s r hK hd h0 h1 ((n_cd_ag (c_fr_n r1) _ _ _ _).trans q1))
              obtain ⟨c8, e8, h⟩ := h
              rw [he] at e8
              cases e8
              rcases h with ⟨k4, h⟩ | ⟨k4, h⟩
              · rw [c45] at k4
                obtain ⟨c10, e10, h⟩ := h
                rw [he] at e10
                cases e10
                refine fin _ ?_ h
                unfold n_sg
                rw [if_pos k4, Int64.toInt_neg, Int.bmod_def]
                split <;> omega
              · rw [c45] at k4
                obtain ⟨c11, e11, h⟩ := h
                rw [he] at e11
                cases e11
                refine fin _ ?_ h
                unfold n_sg
                rw [if_neg k4]
end CR
end
