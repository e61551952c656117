set_option maxHeartbeats 4000000 in
set_option maxRecDepth 100000 in
theorem rX12_isThere {sk : xK} {base N d : Nat} (hkb : x_kb sk base) (a1 : Int64) (a2 : Int64) (n sl : Nat) (SH : Nat → Nat × Nat) (FI : Nat → Nat → Int32) (FL : Nat → Nat → Int64) (FR : Nat → Nat → Option Nat) (hok : pk n SH FR)  : pw pj_I sk base N d none 166 0 [(0, .ref (base + 121)), (1, .long (a1)), (3, .long (a2))] [] (n, sl, SH, FI, FL, FR) (P_ret (fX12_isThere a1 a2 SH FI FL FR) (n, sl, SH, FI, FL, FR)) := by
  unfold fX12_isThere
  refine pw_lloadn (aX12_isThere 0 rfl) rfl ?_
  refine pw_lconst (v := (0 : Int64)) (aX12_isThere 1 rfl) rfl ?_
  refine pw_ite (pw_lclt (tgt := 20) (aX12_isThere 2 rfl) (aX12_isThere 3 rfl) (by decide) (fun b0 => ?_) (fun b0 => ?_))
  · skip
    refine pw_iconst (v := (0 : Int32)) (aX12_isThere 12 rfl) rfl ?_
    exact pw_iret (aX12_isThere 13 rfl) hok
  · skip
    refine pw_lloadn (aX12_isThere 4 rfl) rfl ?_
    refine pw_ldc2 (v := (4096 : Int64)) (aX12_isThere 5 rfl) uk_RX12_218 ?_
    refine pw_lloadn (aX12_isThere 6 rfl) rfl ?_
    refine pw_lsub (aX12_isThere 7 rfl) ?_
    refine pw_ite (pw_lcgt (tgt := 20) (aX12_isThere 8 rfl) (aX12_isThere 9 rfl) (by decide) (fun b1 => ?_) (fun b1 => ?_))
    · skip
      refine pw_iconst (v := (0 : Int32)) (aX12_isThere 12 rfl) rfl ?_
      exact pw_iret (aX12_isThere 13 rfl) hok
    · skip
      refine pw_iconst (v := (1 : Int32)) (aX12_isThere 10 rfl) rfl ?_
      refine pw_goto (tgt := 21) (aX12_isThere 11 rfl) (by decide) ?_
      exact pw_iret (aX12_isThere 13 rfl) hok
set_option maxHeartbeats 4000000 in
set_option maxRecDepth 100000 in
theorem bX12_read_8 {sk : xK} {base N d : Nat} {K8 : Int64 → Int32 → Nat → Nat → (Nat → Nat × Nat) → (Nat → Nat → Int32) → (Nat → Nat → Int64) → (Nat → Nat → Option Nat) → Int64 → hS → Prop} (hkb : x_kb sk base) (a1 : Int64) (a2 : Int32) (l4l : Int64) (l6i : Int32)  (n sl : Nat) (SH : Nat → Nat × Nat) (FI : Nat → Nat → Int32) (FL : Nat → Nat → Int64) (FR : Nat → Nat → Option Nat) (hok : pk n SH FR)  (hK8 : ∀ (l4l : Int64) (l6i : Int32) (n sl : Nat) (SH : Nat → Nat × Nat) (FI : Nat → Nat → Int32) (FL : Nat → Nat → Int64) (FR : Nat → Nat → Option Nat), pk n SH FR → pw pj_J sk base N d none 167 8 [(0, .ref (base + 121)), (1, .long (a1)), (3, .int (a2)), (4, .long (l4l)), (6, .int (l6i))] [] (n, sl, SH, FI, FL, FR) (K8 l4l l6i n sl SH FI FL FR)) : pw pj_J sk base (N + 1) d none 167 8 [(0, .ref (base + 121)), (1, .long (a1)), (3, .int (a2)), (4, .long (l4l)), (6, .int (l6i))] [] (n, sl, SH, FI, FL, FR) (BX12_read_8 K8 a1 a2 l4l l6i n sl SH FI FL FR) := by
  unfold BX12_read_8
  refine pd_iload (aX12_read 6 rfl) rfl ?_
  refine pw_iflt (tgt := 38) (aX12_read 7 rfl) (by decide) (fun b0 => ?_) (fun b0 => ?_)
  · skip
    refine pw_lload (aX12_read 23 rfl) rfl ?_
    exact pw_lret (aX12_read 24 rfl) hok
  · skip
    refine pw_lload (aX12_read 8 rfl) rfl ?_
    refine pw_bipush (v := (8 : Int32)) (aX12_read 9 rfl) rfl ?_
    refine pw_lshl (aX12_read 10 rfl) ?_
    refine pw_aloadn (aX12_read 11 rfl) rfl ?_
    refine pw_getr (v := .ref (base + 123)) (aX12_read 12 rfl) uf_RX12_13 un_RX12_13 (congrArg (fun r => va_rf (h_rf base r)) (q121_2 (hok).2.1)) ?_
    refine pw_lloadn (aX12_read 13 rfl) rfl ?_
    refine pw_l2i (aX12_read 14 rfl) ?_
    refine pw_iload (aX12_read 15 rfl) rfl ?_
    refine pw_iadd (aX12_read 16 rfl) ?_
    refine pw_ialdr (c := 123) (ix := (((a1).toInt32) + (l6i)).toInt.toNat) (aX12_read 17 rfl) rfl (fun _ => ?_)
    refine pw_i2l (aX12_read 18 rfl) ?_
    refine pw_lor (aX12_read 19 rfl) ?_
    refine pw_lstore (L2 := [(4, .long (((l4l) <<< (((8 : Int32)).toInt64 &&& 63)) ||| ((FI 123 (((a1).toInt32) + (l6i)).toInt.toNat).toInt64))), (0, .ref (base + 121)), (1, .long (a1)), (3, .int (a2)), (6, .int (l6i))]) (aX12_read 20 rfl) rfl ?_
    refine pw_iinc (v := (l6i) + (-1 : Int32)) (L2 := [(6, .int ((l6i) + (-1 : Int32))), (4, .long (((l4l) <<< (((8 : Int32)).toInt64 &&& 63)) ||| ((FI 123 (((a1).toInt32) + (l6i)).toInt.toNat).toInt64))), (0, .ref (base + 121)), (1, .long (a1)), (3, .int (a2))]) (aX12_read 21 rfl) rfl rfl rfl ?_
    refine pw_goto (tgt := 8) (aX12_read 22 rfl) (by decide) ?_
    exact pw_Li (L2 := [(0, .ref (base + 121)), (1, .long (a1)), (3, .int (a2)), (4, .long (((l4l) <<< (((8 : Int32)).toInt64 &&& 63)) ||| ((FI 123 (((a1).toInt32) + (l6i)).toInt.toNat).toInt64))), (6, .int ((l6i) + (-1 : Int32)))]) [4, 3, 0, 1, 2] (hK8 (((l4l) <<< (((8 : Int32)).toInt64 &&& 63)) ||| ((FI 123 (((a1).toInt32) + (l6i)).toInt.toNat).toInt64)) ((l6i) + (-1 : Int32)) n sl SH FI FL FR hok) ⟨rfl, rfl, rfl, rfl, rfl, trivial⟩
theorem gX12_read_8 {sk : xK} {base d : Nat}  (hkb : x_kb sk base) (a1 : Int64) (a2 : Int32) (N : Nat) :  ∀ (l4l : Int64) (l6i : Int32)  (n sl : Nat) (SH : Nat → Nat × Nat) (FI : Nat → Nat → Int32) (FL : Nat → Nat → Int64) (FR : Nat → Nat → Option Nat), pk n SH FR → pw pj_J sk base N d none 167 8 [(0, .ref (base + 121)), (1, .long (a1)), (3, .int (a2)), (4, .long (l4l)), (6, .int (l6i))] [] (n, sl, SH, FI, FL, FR) (GX12_read_8  a1 a2 (N + 1) l4l l6i n sl SH FI FL FR) := by
  induction N with
  | zero => intros; exact pw_0
  | succ N ih => intro   l4l l6i  n sl SH FI FL FR hok; exact bX12_read_8 hkb a1 a2 l4l l6i  n sl SH FI FL FR hok  (ih  )
theorem rX12_read_8 {sk : xK} {base N d : Nat}  (hkb : x_kb sk base) (a1 : Int64) (a2 : Int32) (l4l : Int64) (l6i : Int32)  (n sl : Nat) (SH : Nat → Nat × Nat) (FI : Nat → Nat → Int32) (FL : Nat → Nat → Int64) (FR : Nat → Nat → Option Nat) (hok : pk n SH FR)   : pw pj_J sk base N d none 167 8 [(0, .ref (base + 121)), (1, .long (a1)), (3, .int (a2)), (4, .long (l4l)), (6, .int (l6i))] [] (n, sl, SH, FI, FL, FR) (RX12_read_8  a1 a2 l4l l6i n sl SH FI FL FR) := pw_cons (gX12_read_8 hkb a1 a2 N   l4l l6i  n sl SH FI FL FR hok) (fun _ _ h => ⟨_, h⟩)
set_option maxHeartbeats 4000000 in
set_option maxRecDepth 100000 in
theorem rX12_read {sk : xK} {base N d : Nat} (hkb : x_kb sk base) (a1 : Int64) (a2 : Int32) (n sl : Nat) (SH : Nat → Nat × Nat) (FI : Nat → Nat → Int32) (FL : Nat → Nat → Int64) (FR : Nat → Nat → Option Nat) (hok : pk n SH FR)  : pw pj_J sk base N d none 167 0 [(0, .ref (base + 121)), (1, .long (a1)), (3, .int (a2))] [] (n, sl, SH, FI, FL, FR) (RX12_read a1 a2 n sl SH FI FL FR) := by
  unfold RX12_read
  refine pw_lconst (v := (0 : Int64)) (aX12_read 0 rfl) rfl ?_
  refine pw_lstore (L2 := [(4, .long ((0 : Int64))), (0, .ref (base + 121)), (1, .long (a1)), (3, .int (a2))]) (aX12_read 1 rfl) rfl ?_
  refine pw_iloadn (aX12_read 2 rfl) rfl ?_
  refine pw_iconst (v := (1 : Int32)) (aX12_read 3 rfl) rfl ?_
  refine pw_isub (aX12_read 4 rfl) ?_
  refine pw_istore (L2 := [(6, .int ((a2) - ((1 : Int32)))), (4, .long ((0 : Int64))), (0, .ref (base + 121)), (1, .long (a1)), (3, .int (a2))]) (aX12_read 5 rfl) rfl ?_
  exact pw_Li (L2 := [(0, .ref (base + 121)), (1, .long (a1)), (3, .int (a2)), (4, .long ((0 : Int64))), (6, .int ((a2) - ((1 : Int32))))]) [4, 3, 0, 1, 2] (rX12_read_8 hkb a1 a2 ((0 : Int64)) ((a2) - ((1 : Int32))) n sl SH FI FL FR hok  ) ⟨rfl, rfl, rfl, rfl, rfl, trivial⟩
set_option maxHeartbeats 4000000 in
set_option maxRecDepth 100000 in
theorem bX12_fixed_34 {sk : xK} {base N d : Nat} {K34 : Int64 → Int32 → Nat → Nat → (Nat → Nat × Nat) → (Nat → Nat → Int32) → (Nat → Nat → Int64) → (Nat → Nat → Option Nat) → Int64 → hS → Prop} (hkb : x_kb sk base) (a1 : Int32) (a2 : Int32) (a3 : Int32) (l4l : Int64) (l6i : Int32)  (n sl : Nat) (SH : Nat → Nat × Nat) (FI : Nat → Nat → Int32) (FL : Nat → Nat → Int64) (FR : Nat → Nat → Option Nat) (hok : pk n SH FR)  (hK34 : ∀ (l4l : Int64) (l6i : Int32) (n sl : Nat) (SH : Nat → Nat × Nat) (FI : Nat → Nat → Int32) (FL : Nat → Nat → Int64) (FR : Nat → Nat → Option Nat), pk n SH FR → pw pj_J sk base N d none 168 34 [(0, .ref (base + 121)), (1, .int (a1)), (2, .int (a2)), (3, .int (a3)), (4, .long (l4l)), (6, .int (l6i))] [] (n, sl, SH, FI, FL, FR) (K34 l4l l6i n sl SH FI FL FR)) : pw pj_J sk base (N + 1) d none 168 34 [(0, .ref (base + 121)), (1, .int (a1)), (2, .int (a2)), (3, .int (a3)), (4, .long (l4l)), (6, .int (l6i))] [] (n, sl, SH, FI, FL, FR) (BX12_fixed_34 K34 a1 a2 a3 l4l l6i n sl SH FI FL FR) := by
  unfold BX12_fixed_34
  refine pd_iload (aX12_fixed 22 rfl) rfl ?_
  refine pw_iflt (tgt := 66) (aX12_fixed 23 rfl) (by decide) (fun b0 => ?_) (fun b0 => ?_)
  · skip
    refine pw_aloadn (aX12_fixed 39 rfl) rfl ?_
    refine pw_aloadn (aX12_fixed 40 rfl) rfl ?_
    refine pw_getr (v := .int (FI 121 37)) (aX12_fixed 41 rfl) uf_RX12_223 un_RX12_223 rfl ?_
    refine pw_iloadn (aX12_fixed 42 rfl) rfl ?_
    refine pw_iadd (aX12_fixed 43 rfl) ?_
    refine pw_putri (aX12_fixed 44 rfl) uf_RX12_223 (fun _ _ _ => rfl) (fun t2 => ?_)
    refine pw_iloadn (aX12_fixed 45 rfl) rfl ?_
    refine pw_ifeq (tgt := 107) (aX12_fixed 46 rfl) (by decide) (fun b2 => ?_) (fun b2 => ?_)
    · skip
      refine pw_lload (aX12_fixed 64 rfl) rfl ?_
      exact pw_lret (aX12_fixed 65 rfl) hok
    · skip
      refine pw_iloadn (aX12_fixed 47 rfl) rfl ?_
      refine pw_bipush (v := (8 : Int32)) (aX12_fixed 48 rfl) rfl ?_
      refine pw_icge (tgt := 107) (aX12_fixed 49 rfl) (by decide) (fun b3 => ?_) (fun b3 => ?_)
      · skip
        refine pw_lload (aX12_fixed 50 rfl) rfl ?_
        refine pw_bipush (v := (64 : Int32)) (aX12_fixed 51 rfl) rfl ?_
        refine pw_bipush (v := (8 : Int32)) (aX12_fixed 52 rfl) rfl ?_
        refine pw_iloadn (aX12_fixed 53 rfl) rfl ?_
        refine pw_imul (aX12_fixed 54 rfl) ?_
        refine pw_isub (aX12_fixed 55 rfl) ?_
        refine pw_lshl (aX12_fixed 56 rfl) ?_
        refine pw_bipush (v := (64 : Int32)) (aX12_fixed 57 rfl) rfl ?_
        refine pw_bipush (v := (8 : Int32)) (aX12_fixed 58 rfl) rfl ?_
        refine pw_iloadn (aX12_fixed 59 rfl) rfl ?_
        refine pw_imul (aX12_fixed 60 rfl) ?_
        refine pw_isub (aX12_fixed 61 rfl) ?_
        refine pw_lshr (aX12_fixed 62 rfl) ?_
        refine pw_goto (tgt := 109) (aX12_fixed 63 rfl) (by decide) ?_
        exact pw_lret (aX12_fixed 65 rfl) hok
      · skip
        refine pw_lload (aX12_fixed 64 rfl) rfl ?_
        exact pw_lret (aX12_fixed 65 rfl) hok
  · skip
    refine pw_lload (aX12_fixed 24 rfl) rfl ?_
    refine pw_bipush (v := (8 : Int32)) (aX12_fixed 25 rfl) rfl ?_
    refine pw_lshl (aX12_fixed 26 rfl) ?_
    refine pw_aloadn (aX12_fixed 27 rfl) rfl ?_
    refine pw_getr (v := .ref (base + 124)) (aX12_fixed 28 rfl) uf_RX12_17 un_RX12_17 (congrArg (fun r => va_rf (h_rf base r)) (q121_3 (hok).2.1)) ?_
    refine pw_aloadn (aX12_fixed 29 rfl) rfl ?_
    refine pw_getr (v := .int (FI 121 37)) (aX12_fixed 30 rfl) uf_RX12_223 un_RX12_223 rfl ?_
    refine pw_iload (aX12_fixed 31 rfl) rfl ?_
    refine pw_iadd (aX12_fixed 32 rfl) ?_
    refine pw_ialdr (c := 124) (ix := ((FI 121 37) + (l6i)).toInt.toNat) (aX12_fixed 33 rfl) rfl (fun _ => ?_)
    refine pw_i2l (aX12_fixed 34 rfl) ?_
    refine pw_lor (aX12_fixed 35 rfl) ?_
    refine pw_lstore (L2 := [(4, .long (((l4l) <<< (((8 : Int32)).toInt64 &&& 63)) ||| ((FI 124 ((FI 121 37) + (l6i)).toInt.toNat).toInt64))), (0, .ref (base + 121)), (1, .int (a1)), (2, .int (a2)), (3, .int (a3)), (6, .int (l6i))]) (aX12_fixed 36 rfl) rfl ?_
    refine pw_iinc (v := (l6i) + (-1 : Int32)) (L2 := [(6, .int ((l6i) + (-1 : Int32))), (4, .long (((l4l) <<< (((8 : Int32)).toInt64 &&& 63)) ||| ((FI 124 ((FI 121 37) + (l6i)).toInt.toNat).toInt64))), (0, .ref (base + 121)), (1, .int (a1)), (2, .int (a2)), (3, .int (a3))]) (aX12_fixed 37 rfl) rfl rfl rfl ?_
    refine pw_goto (tgt := 34) (aX12_fixed 38 rfl) (by decide) ?_
    exact pw_Li (L2 := [(0, .ref (base + 121)), (1, .int (a1)), (2, .int (a2)), (3, .int (a3)), (4, .long (((l4l) <<< (((8 : Int32)).toInt64 &&& 63)) ||| ((FI 124 ((FI 121 37) + (l6i)).toInt.toNat).toInt64))), (6, .int ((l6i) + (-1 : Int32)))]) [5, 4, 0, 1, 2, 3] (hK34 (((l4l) <<< (((8 : Int32)).toInt64 &&& 63)) ||| ((FI 124 ((FI 121 37) + (l6i)).toInt.toNat).toInt64)) ((l6i) + (-1 : Int32)) n sl SH FI FL FR hok) ⟨rfl, rfl, rfl, rfl, rfl, rfl, trivial⟩
theorem gX12_fixed_34 {sk : xK} {base d : Nat}  (hkb : x_kb sk base) (a1 : Int32) (a2 : Int32) (a3 : Int32) (N : Nat) :  ∀ (l4l : Int64) (l6i : Int32)  (n sl : Nat) (SH : Nat → Nat × Nat) (FI : Nat → Nat → Int32) (FL : Nat → Nat → Int64) (FR : Nat → Nat → Option Nat), pk n SH FR → pw pj_J sk base N d none 168 34 [(0, .ref (base + 121)), (1, .int (a1)), (2, .int (a2)), (3, .int (a3)), (4, .long (l4l)), (6, .int (l6i))] [] (n, sl, SH, FI, FL, FR) (GX12_fixed_34  a1 a2 a3 (N + 1) l4l l6i n sl SH FI FL FR) := by
  induction N with
  | zero => intros; exact pw_0
  | succ N ih => intro   l4l l6i  n sl SH FI FL FR hok; exact bX12_fixed_34 hkb a1 a2 a3 l4l l6i  n sl SH FI FL FR hok  (ih  )
theorem rX12_fixed_34 {sk : xK} {base N d : Nat}  (hkb : x_kb sk base) (a1 : Int32) (a2 : Int32) (a3 : Int32) (l4l : Int64) (l6i : Int32)  (n sl : Nat) (SH : Nat → Nat × Nat) (FI : Nat → Nat → Int32) (FL : Nat → Nat → Int64) (FR : Nat → Nat → Option Nat) (hok : pk n SH FR)   : pw pj_J sk base N d none 168 34 [(0, .ref (base + 121)), (1, .int (a1)), (2, .int (a2)), (3, .int (a3)), (4, .long (l4l)), (6, .int (l6i))] [] (n, sl, SH, FI, FL, FR) (RX12_fixed_34  a1 a2 a3 l4l l6i n sl SH FI FL FR) := pw_cons (gX12_fixed_34 hkb a1 a2 a3 N   l4l l6i  n sl SH FI FL FR hok) (fun _ _ h => ⟨_, h⟩)
set_option maxHeartbeats 4000000 in
set_option maxRecDepth 100000 in
theorem rX12_fixed {sk : xK} {base N d : Nat} (hkb : x_kb sk base) (a1 : Int32) (a2 : Int32) (a3 : Int32) (n sl : Nat) (SH : Nat → Nat × Nat) (FI : Nat → Nat → Int32) (FL : Nat → Nat → Int64) (FR : Nat → Nat → Option Nat) (hok : pk n SH FR)  : pw pj_J sk base N d none 168 0 [(0, .ref (base + 121)), (1, .int (a1)), (2, .int (a2)), (3, .int (a3))] [] (n, sl, SH, FI, FL, FR) (RX12_fixed a1 a2 a3 n sl SH FI FL FR) := by
  unfold RX12_fixed
  refine pw_aloadn (aX12_fixed 0 rfl) rfl ?_
  refine pw_getr (v := .int (FI 121 38)) (aX12_fixed 1 rfl) uf_RX12_220 un_RX12_220 rfl ?_
  refine pw_ifeq (tgt := 9) (aX12_fixed 2 rfl) (by decide) (fun b0 => ?_) (fun b0 => ?_)
  · skip
    refine pw_aloadn (aX12_fixed 5 rfl) rfl ?_
    refine pw_getr (v := .int (FI 121 37)) (aX12_fixed 6 rfl) uf_RX12_223 un_RX12_223 rfl ?_
    refine pw_iloadn (aX12_fixed 7 rfl) rfl ?_
    refine pw_iadd (aX12_fixed 8 rfl) ?_
    refine pw_iloadn (aX12_fixed 9 rfl) rfl ?_
    refine pw_icle (tgt := 26) (aX12_fixed 10 rfl) (by decide) (fun b1 => ?_) (fun b1 => ?_)
    · skip
      refine pw_aloadn (aX12_fixed 11 rfl) rfl ?_
      refine pw_iconst (v := (1 : Int32)) (aX12_fixed 12 rfl) rfl ?_
      refine pw_putri (aX12_fixed 13 rfl) uf_RX12_220 (fun _ _ _ => rfl) (fun t3 => ?_)
      refine pw_lconst (v := (0 : Int64)) (aX12_fixed 14 rfl) rfl ?_
      exact pw_lret (aX12_fixed 15 rfl) hok
    · skip
      refine pw_lconst (v := (0 : Int64)) (aX12_fixed 16 rfl) rfl ?_
      refine pw_lstore (L2 := [(4, .long ((0 : Int64))), (0, .ref (base + 121)), (1, .int (a1)), (2, .int (a2)), (3, .int (a3))]) (aX12_fixed 17 rfl) rfl ?_
      refine pw_iloadn (aX12_fixed 18 rfl) rfl ?_
      refine pw_iconst (v := (1 : Int32)) (aX12_fixed 19 rfl) rfl ?_
      refine pw_isub (aX12_fixed 20 rfl) ?_
      refine pw_istore (L2 := [(6, .int ((a1) - ((1 : Int32)))), (4, .long ((0 : Int64))), (0, .ref (base + 121)), (1, .int (a1)), (2, .int (a2)), (3, .int (a3))]) (aX12_fixed 21 rfl) rfl ?_
      exact pw_Li (L2 := [(0, .ref (base + 121)), (1, .int (a1)), (2, .int (a2)), (3, .int (a3)), (4, .long ((0 : Int64))), (6, .int ((a1) - ((1 : Int32))))]) [5, 4, 0, 1, 2, 3] (rX12_fixed_34 hkb a1 a2 a3 ((0 : Int64)) ((a1) - ((1 : Int32))) n sl SH FI FL FR hok  ) ⟨rfl, rfl, rfl, rfl, rfl, rfl, trivial⟩
  · skip
    refine pw_lconst (v := (0 : Int64)) (aX12_fixed 3 rfl) rfl ?_
    exact pw_lret (aX12_fixed 4 rfl) hok
set_option maxHeartbeats 4000000 in
set_option maxRecDepth 100000 in
theorem bX12_leb_14 {sk : xK} {base N d : Nat} {K14 : Int64 → Int32 → Nat → Nat → (Nat → Nat × Nat) → (Nat → Nat → Int32) → (Nat → Nat → Int64) → (Nat → Nat → Option Nat) → Int64 → hS → Prop} (hkb : x_kb sk base) (a1 : Int32) (a2 : Int32) (l3l : Int64) (l5i : Int32) (l6i : Int32) (n sl : Nat) (SH : Nat → Nat × Nat) (FI : Nat → Nat → Int32) (FL : Nat → Nat → Int64) (FR : Nat → Nat → Option Nat) (hok : pk n SH FR)  (hK14 : ∀ (l3l : Int64) (l5i : Int32) (l6i : Int32) (n sl : Nat) (SH : Nat → Nat × Nat) (FI : Nat → Nat → Int32) (FL : Nat → Nat → Int64) (FR : Nat → Nat → Option Nat), pk n SH FR → pw pj_J sk base N d none 169 14 [(0, .ref (base + 121)), (1, .int (a1)), (2, .int (a2)), (3, .long (l3l)), (5, .int (l5i)), (6, .int (l6i))] [] (n, sl, SH, FI, FL, FR) (K14 l3l l5i n sl SH FI FL FR)) : pw pj_J sk base (N + 1) d none 169 14 [(0, .ref (base + 121)), (1, .int (a1)), (2, .int (a2)), (3, .long (l3l)), (5, .int (l5i)), (6, .int (l6i))] [] (n, sl, SH, FI, FL, FR) (BX12_leb_14 K14 a1 a2 l3l l5i n sl SH FI FL FR) := by
  unfold BX12_leb_14
  refine pd_iload (aX12_leb 9 rfl) rfl ?_
  refine pw_bipush (v := (10 : Int32)) (aX12_leb 10 rfl) rfl ?_
  refine pw_icge (tgt := 125) (aX12_leb 11 rfl) (by decide) (fun b0 => ?_) (fun b0 => ?_)
  · skip
    refine pw_aloadn (aX12_leb 12 rfl) rfl ?_
    refine pw_getr (v := .int (FI 121 37)) (aX12_leb 13 rfl) uf_RX12_223 un_RX12_223 rfl ?_
    refine pw_iloadn (aX12_leb 14 rfl) rfl ?_
    refine pw_iclt (tgt := 36) (aX12_leb 15 rfl) (by decide) (fun b1 => ?_) (fun b1 => ?_)
    · skip
      refine pw_aloadn (aX12_leb 21 rfl) rfl ?_
      refine pw_getr (v := .ref (base + 124)) (aX12_leb 22 rfl) uf_RX12_17 un_RX12_17 (congrArg (fun r => va_rf (h_rf base r)) (q121_3 (hok).2.1)) ?_
      refine pw_aloadn (aX12_leb 23 rfl) rfl ?_
      refine pw_getr (v := .int (FI 121 37)) (aX12_leb 24 rfl) uf_RX12_223 un_RX12_223 rfl ?_
      refine pw_ialdr (c := 124) (ix := (FI 121 37).toInt.toNat) (aX12_leb 25 rfl) rfl (fun _ => ?_)
      refine pw_istore (L2 := [(6, .int (FI 124 (FI 121 37).toInt.toNat)), (0, .ref (base + 121)), (1, .int (a1)), (2, .int (a2)), (3, .long (l3l)), (5, .int (l5i))]) (aX12_leb 26 rfl) rfl ?_
      refine pw_aloadn (aX12_leb 27 rfl) rfl ?_
      refine pw_aloadn (aX12_leb 28 rfl) rfl ?_
      refine pw_getr (v := .int (FI 121 37)) (aX12_leb 29 rfl) uf_RX12_223 un_RX12_223 rfl ?_
      refine pw_iconst (v := (1 : Int32)) (aX12_leb 30 rfl) rfl ?_
      refine pw_iadd (aX12_leb 31 rfl) ?_
      refine pw_putri (aX12_leb 32 rfl) uf_RX12_223 (fun _ _ _ => rfl) (fun t3 => ?_)
      refine pw_lloadn (aX12_leb 33 rfl) rfl ?_
      refine pw_iload (aX12_leb 34 rfl) rfl ?_
      refine pw_bipush (v := (127 : Int32)) (aX12_leb 35 rfl) rfl ?_
      refine pw_iand (aX12_leb 36 rfl) ?_
      refine pw_i2l (aX12_leb 37 rfl) ?_
      refine pw_bipush (v := (7 : Int32)) (aX12_leb 38 rfl) rfl ?_
      refine pw_iload (aX12_leb 39 rfl) rfl ?_
      refine pw_imul (aX12_leb 40 rfl) ?_
      refine pw_lshl (aX12_leb 41 rfl) ?_
      refine pw_lor (aX12_leb 42 rfl) ?_
      refine pw_lstoren (L2 := [(3, .long ((l3l) ||| ((((FI 124 (FI 121 37).toInt.toNat) &&& ((127 : Int32))).toInt64) <<< ((((7 : Int32)) * (l5i)).toInt64 &&& 63)))), (6, .int (FI 124 (FI 121 37).toInt.toNat)), (0, .ref (base + 121)), (1, .int (a1)), (2, .int (a2)), (5, .int (l5i))]) (aX12_leb 43 rfl) rfl ?_
      refine pw_iload (aX12_leb 44 rfl) rfl ?_
      refine pw_iconst (v := (1 : Int32)) (aX12_leb 45 rfl) rfl ?_
      refine pw_iadd (aX12_leb 46 rfl) ?_
      refine pw_istore (L2 := [(5, .int ((l5i) + ((1 : Int32)))), (3, .long ((l3l) ||| ((((FI 124 (FI 121 37).toInt.toNat) &&& ((127 : Int32))).toInt64) <<< ((((7 : Int32)) * (l5i)).toInt64 &&& 63)))), (6, .int (FI 124 (FI 121 37).toInt.toNat)), (0, .ref (base + 121)), (1, .int (a1)), (2, .int (a2))]) (aX12_leb 47 rfl) rfl ?_
      refine pw_iload (aX12_leb 48 rfl) rfl ?_
      refine pw_sipush (v := (128 : Int32)) (aX12_leb 49 rfl) rfl ?_
      refine pw_icge (tgt := 122) (aX12_leb 50 rfl) (by decide) (fun b3 => ?_) (fun b3 => ?_)
      · skip
        refine pw_iloadn (aX12_leb 51 rfl) rfl ?_
        refine pw_ifeq (tgt := 120) (aX12_leb 52 rfl) (by decide) (fun b4 => ?_) (fun b4 => ?_)
        · skip
          refine pw_lloadn (aX12_leb 70 rfl) rfl ?_
          exact pw_lret (aX12_leb 71 rfl) hok
        · skip
          refine pw_bipush (v := (7 : Int32)) (aX12_leb 53 rfl) rfl ?_
          refine pw_iload (aX12_leb 54 rfl) rfl ?_
          refine pw_imul (aX12_leb 55 rfl) ?_
          refine pw_bipush (v := (64 : Int32)) (aX12_leb 56 rfl) rfl ?_
          refine pw_icge (tgt := 120) (aX12_leb 57 rfl) (by decide) (fun b5 => ?_) (fun b5 => ?_)
          · skip
            refine pw_iload (aX12_leb 58 rfl) rfl ?_
            refine pw_bipush (v := (64 : Int32)) (aX12_leb 59 rfl) rfl ?_
            refine pw_iand (aX12_leb 60 rfl) ?_
            refine pw_ifeq (tgt := 120) (aX12_leb 61 rfl) (by decide) (fun b6 => ?_) (fun b6 => ?_)
            · skip
              refine pw_lloadn (aX12_leb 70 rfl) rfl ?_
              exact pw_lret (aX12_leb 71 rfl) hok
            · skip
              refine pw_lloadn (aX12_leb 62 rfl) rfl ?_
              refine pw_ldc2 (v := (-1 : Int64)) (aX12_leb 63 rfl) uk_RX12_226 ?_
              refine pw_bipush (v := (7 : Int32)) (aX12_leb 64 rfl) rfl ?_
              refine pw_iload (aX12_leb 65 rfl) rfl ?_
              refine pw_imul (aX12_leb 66 rfl) ?_
              refine pw_lshl (aX12_leb 67 rfl) ?_
              refine pw_lor (aX12_leb 68 rfl) ?_
              refine pw_lstoren (L2 := [(3, .long (((l3l) ||| ((((FI 124 (FI 121 37).toInt.toNat) &&& ((127 : Int32))).toInt64) <<< ((((7 : Int32)) * (l5i)).toInt64 &&& 63))) ||| (((-1 : Int64)) <<< ((((7 : Int32)) * ((l5i) + ((1 : Int32)))).toInt64 &&& 63)))), (5, .int ((l5i) + ((1 : Int32)))), (6, .int (FI 124 (FI 121 37).toInt.toNat)), (0, .ref (base + 121)), (1, .int (a1)), (2, .int (a2))]) (aX12_leb 69 rfl) rfl ?_
              refine pw_lloadn (aX12_leb 70 rfl) rfl ?_
              exact pw_lret (aX12_leb 71 rfl) hok
          · skip
            refine pw_lloadn (aX12_leb 70 rfl) rfl ?_
            exact pw_lret (aX12_leb 71 rfl) hok
      · skip
        refine pw_goto (tgt := 14) (aX12_leb 72 rfl) (by decide) ?_
        exact pw_Li (L2 := [(0, .ref (base + 121)), (1, .int (a1)), (2, .int (a2)), (3, .long ((l3l) ||| ((((FI 124 (FI 121 37).toInt.toNat) &&& ((127 : Int32))).toInt64) <<< ((((7 : Int32)) * (l5i)).toInt64 &&& 63)))), (5, .int ((l5i) + ((1 : Int32)))), (6, .int (FI 124 (FI 121 37).toInt.toNat))]) [4, 3, 5, 0, 1, 2] (hK14 ((l3l) ||| ((((FI 124 (FI 121 37).toInt.toNat) &&& ((127 : Int32))).toInt64) <<< ((((7 : Int32)) * (l5i)).toInt64 &&& 63))) ((l5i) + ((1 : Int32))) (FI 124 (FI 121 37).toInt.toNat) n sl SH (h_up FI 121 37 ((FI 121 37) + ((1 : Int32)))) FL FR hok) ⟨rfl, rfl, rfl, rfl, rfl, rfl, trivial⟩
    · skip
      refine pw_aloadn (aX12_leb 16 rfl) rfl ?_
      refine pw_iconst (v := (1 : Int32)) (aX12_leb 17 rfl) rfl ?_
      refine pw_putri (aX12_leb 18 rfl) uf_RX12_220 (fun _ _ _ => rfl) (fun t8 => ?_)
      refine pw_lconst (v := (0 : Int64)) (aX12_leb 19 rfl) rfl ?_
      exact pw_lret (aX12_leb 20 rfl) hok
  · skip
    refine pw_aloadn (aX12_leb 73 rfl) rfl ?_
    refine pw_bipush (v := (15 : Int32)) (aX12_leb 74 rfl) rfl ?_
    refine pw_putri (aX12_leb 75 rfl) uf_RX12_220 (fun _ _ _ => rfl) (fun t9 => ?_)
    refine pw_lconst (v := (0 : Int64)) (aX12_leb 76 rfl) rfl ?_
    exact pw_lret (aX12_leb 77 rfl) hok
theorem gX12_leb_14 {sk : xK} {base d : Nat}  (hkb : x_kb sk base) (a1 : Int32) (a2 : Int32) (N : Nat) :  ∀ (l3l : Int64) (l5i : Int32) (l6i : Int32) (n sl : Nat) (SH : Nat → Nat × Nat) (FI : Nat → Nat → Int32) (FL : Nat → Nat → Int64) (FR : Nat → Nat → Option Nat), pk n SH FR → pw pj_J sk base N d none 169 14 [(0, .ref (base + 121)), (1, .int (a1)), (2, .int (a2)), (3, .long (l3l)), (5, .int (l5i)), (6, .int (l6i))] [] (n, sl, SH, FI, FL, FR) (GX12_leb_14  a1 a2 (N + 1) l3l l5i n sl SH FI FL FR) := by
  induction N with
  | zero => intros; exact pw_0
  | succ N ih => intro   l3l l5i l6i n sl SH FI FL FR hok; exact bX12_leb_14 hkb a1 a2 l3l l5i l6i n sl SH FI FL FR hok  (ih  )
theorem rX12_leb_14 {sk : xK} {base N d : Nat}  (hkb : x_kb sk base) (a1 : Int32) (a2 : Int32) (l3l : Int64) (l5i : Int32) (l6i : Int32) (n sl : Nat) (SH : Nat → Nat × Nat) (FI : Nat → Nat → Int32) (FL : Nat → Nat → Int64) (FR : Nat → Nat → Option Nat) (hok : pk n SH FR)   : pw pj_J sk base N d none 169 14 [(0, .ref (base + 121)), (1, .int (a1)), (2, .int (a2)), (3, .long (l3l)), (5, .int (l5i)), (6, .int (l6i))] [] (n, sl, SH, FI, FL, FR) (RX12_leb_14  a1 a2 l3l l5i n sl SH FI FL FR) := pw_cons (gX12_leb_14 hkb a1 a2 N   l3l l5i l6i n sl SH FI FL FR hok) (fun _ _ h => ⟨_, h⟩)
set_option maxHeartbeats 4000000 in
set_option maxRecDepth 100000 in
theorem rX12_leb {sk : xK} {base N d : Nat} (hkb : x_kb sk base) (a1 : Int32) (a2 : Int32) (n sl : Nat) (SH : Nat → Nat × Nat) (FI : Nat → Nat → Int32) (FL : Nat → Nat → Int64) (FR : Nat → Nat → Option Nat) (hok : pk n SH FR)  : pw pj_J sk base N d none 169 0 [(0, .ref (base + 121)), (1, .int (a1)), (2, .int (a2))] [] (n, sl, SH, FI, FL, FR) (RX12_leb a1 a2 n sl SH FI FL FR) := by
  unfold RX12_leb
  refine pw_aloadn (aX12_leb 0 rfl) rfl ?_
  refine pw_getr (v := .int (FI 121 38)) (aX12_leb 1 rfl) uf_RX12_220 un_RX12_220 rfl ?_
  refine pw_ifeq (tgt := 9) (aX12_leb 2 rfl) (by decide) (fun b0 => ?_) (fun b0 => ?_)
  · skip
    refine pw_lconst (v := (0 : Int64)) (aX12_leb 5 rfl) rfl ?_
    refine pw_lstoren (L2 := [(3, .long ((0 : Int64))), (0, .ref (base + 121)), (1, .int (a1)), (2, .int (a2))]) (aX12_leb 6 rfl) rfl ?_
    refine pw_iconst (v := (0 : Int32)) (aX12_leb 7 rfl) rfl ?_
    refine pw_istore (L2 := [(5, .int ((0 : Int32))), (3, .long ((0 : Int64))), (0, .ref (base + 121)), (1, .int (a1)), (2, .int (a2))]) (aX12_leb 8 rfl) rfl ?_
    exact pw_Li (L2 := [(0, .ref (base + 121)), (1, .int (a1)), (2, .int (a2)), (3, .long ((0 : Int64))), (5, .int ((0 : Int32))), (6, .int 0)]) [4, 3, 0, 1, 2] (rX12_leb_14 hkb a1 a2 ((0 : Int64)) ((0 : Int32)) 0 n sl SH FI FL FR hok  ) ⟨rfl, rfl, rfl, rfl, rfl, trivial⟩
  · skip
    refine pw_lconst (v := (0 : Int64)) (aX12_leb 3 rfl) rfl ?_
    exact pw_lret (aX12_leb 4 rfl) hok
set_option maxHeartbeats 4000000 in
set_option maxRecDepth 100000 in
theorem rX12_isKnown {sk : xK} {base N d : Nat} (hkb : x_kb sk base) (a1 : Int32) (n sl : Nat) (SH : Nat → Nat × Nat) (FI : Nat → Nat → Int32) (FL : Nat → Nat → Int64) (FR : Nat → Nat → Option Nat) (hok : pk n SH FR)  : pw pj_I sk base N d none 170 0 [(0, .ref (base + 121)), (1, .int (a1))] [] (n, sl, SH, FI, FL, FR) (P_ret (fX12_isKnown a1 SH FI FL FR) (n, sl, SH, FI, FL, FR)) := by
  unfold fX12_isKnown
  refine pw_iloadn (aX12_isKnown 0 rfl) rfl ?_
  refine pw_iconst (v := (3 : Int32)) (aX12_isKnown 1 rfl) rfl ?_
  refine pw_ite (pw_iceq (tgt := 11) (aX12_isKnown 2 rfl) (by decide) (fun b0 => ?_) (fun b0 => ?_))
  · skip
    refine pw_iconst (v := (1 : Int32)) (aX12_isKnown 6 rfl) rfl ?_
    exact pw_iret (aX12_isKnown 7 rfl) hok
  · skip
    refine pw_iloadn (aX12_isKnown 3 rfl) rfl ?_
    refine pw_bipush (v := (6 : Int32)) (aX12_isKnown 4 rfl) rfl ?_
    refine pw_ite (pw_icne (tgt := 13) (aX12_isKnown 5 rfl) (by decide) (fun b1 => ?_) (fun b1 => ?_))
    · skip
      refine pw_iconst (v := (1 : Int32)) (aX12_isKnown 6 rfl) rfl ?_
      exact pw_iret (aX12_isKnown 7 rfl) hok
    · skip
      refine pw_iloadn (aX12_isKnown 8 rfl) rfl ?_
      refine pw_bipush (v := (8 : Int32)) (aX12_isKnown 9 rfl) rfl ?_
      refine pw_ite (pw_iclt (tgt := 27) (aX12_isKnown 10 rfl) (by decide) (fun b2 => ?_) (fun b2 => ?_))
      · skip
        refine pw_iloadn (aX12_isKnown 16 rfl) rfl ?_
        refine pw_bipush (v := (25 : Int32)) (aX12_isKnown 17 rfl) rfl ?_
        refine pw_ite (pw_iclt (tgt := 42) (aX12_isKnown 18 rfl) (by decide) (fun b3 => ?_) (fun b3 => ?_))
        · skip
          refine pw_iloadn (aX12_isKnown 24 rfl) rfl ?_
          refine pw_sipush (v := (150 : Int32)) (aX12_isKnown 25 rfl) rfl ?_
          refine pw_ite (pw_iclt (tgt := 56) (aX12_isKnown 26 rfl) (by decide) (fun b4 => ?_) (fun b4 => ?_))
          · skip
            refine pw_iloadn (aX12_isKnown 30 rfl) rfl ?_
            refine pw_sipush (v := (155 : Int32)) (aX12_isKnown 31 rfl) rfl ?_
            refine pw_ite (pw_iclt (tgt := 74) (aX12_isKnown 32 rfl) (by decide) (fun b5 => ?_) (fun b5 => ?_))
            · skip
              refine pw_iconst (v := (0 : Int32)) (aX12_isKnown 38 rfl) rfl ?_
              exact pw_iret (aX12_isKnown 39 rfl) hok
            · skip
              refine pw_iloadn (aX12_isKnown 33 rfl) rfl ?_
              refine pw_sipush (v := (159 : Int32)) (aX12_isKnown 34 rfl) rfl ?_
              refine pw_ite (pw_icgt (tgt := 74) (aX12_isKnown 35 rfl) (by decide) (fun b6 => ?_) (fun b6 => ?_))
              · skip
                refine pw_iconst (v := (0 : Int32)) (aX12_isKnown 38 rfl) rfl ?_
                exact pw_iret (aX12_isKnown 39 rfl) hok
              · skip
                refine pw_iconst (v := (1 : Int32)) (aX12_isKnown 36 rfl) rfl ?_
                refine pw_goto (tgt := 75) (aX12_isKnown 37 rfl) (by decide) ?_
                exact pw_iret (aX12_isKnown 39 rfl) hok
          · skip
            refine pw_iloadn (aX12_isKnown 27 rfl) rfl ?_
            refine pw_sipush (v := (153 : Int32)) (aX12_isKnown 28 rfl) rfl ?_
            refine pw_ite (pw_icle (tgt := 70) (aX12_isKnown 29 rfl) (by decide) (fun b7 => ?_) (fun b7 => ?_))
            · skip
              refine pw_iloadn (aX12_isKnown 30 rfl) rfl ?_
              refine pw_sipush (v := (155 : Int32)) (aX12_isKnown 31 rfl) rfl ?_
              refine pw_ite (pw_iclt (tgt := 74) (aX12_isKnown 32 rfl) (by decide) (fun b8 => ?_) (fun b8 => ?_))
              · skip
                refine pw_iconst (v := (0 : Int32)) (aX12_isKnown 38 rfl) rfl ?_
                exact pw_iret (aX12_isKnown 39 rfl) hok
              · skip
                refine pw_iloadn (aX12_isKnown 33 rfl) rfl ?_
                refine pw_sipush (v := (159 : Int32)) (aX12_isKnown 34 rfl) rfl ?_
                refine pw_ite (pw_icgt (tgt := 74) (aX12_isKnown 35 rfl) (by decide) (fun b9 => ?_) (fun b9 => ?_))
                · skip
                  refine pw_iconst (v := (0 : Int32)) (aX12_isKnown 38 rfl) rfl ?_
                  exact pw_iret (aX12_isKnown 39 rfl) hok
                · skip
                  refine pw_iconst (v := (1 : Int32)) (aX12_isKnown 36 rfl) rfl ?_
                  refine pw_goto (tgt := 75) (aX12_isKnown 37 rfl) (by decide) ?_
                  exact pw_iret (aX12_isKnown 39 rfl) hok
            · skip
              refine pw_iconst (v := (1 : Int32)) (aX12_isKnown 36 rfl) rfl ?_
              refine pw_goto (tgt := 75) (aX12_isKnown 37 rfl) (by decide) ?_
              exact pw_iret (aX12_isKnown 39 rfl) hok
        · skip
          refine pw_iloadn (aX12_isKnown 19 rfl) rfl ?_
          refine pw_sipush (v := (148 : Int32)) (aX12_isKnown 20 rfl) rfl ?_
          refine pw_ite (pw_icgt (tgt := 42) (aX12_isKnown 21 rfl) (by decide) (fun b10 => ?_) (fun b10 => ?_))
          · skip
            refine pw_iloadn (aX12_isKnown 24 rfl) rfl ?_
            refine pw_sipush (v := (150 : Int32)) (aX12_isKnown 25 rfl) rfl ?_
            refine pw_ite (pw_iclt (tgt := 56) (aX12_isKnown 26 rfl) (by decide) (fun b11 => ?_) (fun b11 => ?_))
            · skip
              refine pw_iloadn (aX12_isKnown 30 rfl) rfl ?_
              refine pw_sipush (v := (155 : Int32)) (aX12_isKnown 31 rfl) rfl ?_
              refine pw_ite (pw_iclt (tgt := 74) (aX12_isKnown 32 rfl) (by decide) (fun b12 => ?_) (fun b12 => ?_))
              · skip
                refine pw_iconst (v := (0 : Int32)) (aX12_isKnown 38 rfl) rfl ?_
                exact pw_iret (aX12_isKnown 39 rfl) hok
              · skip
                refine pw_iloadn (aX12_isKnown 33 rfl) rfl ?_
                refine pw_sipush (v := (159 : Int32)) (aX12_isKnown 34 rfl) rfl ?_
                refine pw_ite (pw_icgt (tgt := 74) (aX12_isKnown 35 rfl) (by decide) (fun b13 => ?_) (fun b13 => ?_))
                · skip
                  refine pw_iconst (v := (0 : Int32)) (aX12_isKnown 38 rfl) rfl ?_
                  exact pw_iret (aX12_isKnown 39 rfl) hok
                · skip
                  refine pw_iconst (v := (1 : Int32)) (aX12_isKnown 36 rfl) rfl ?_
                  refine pw_goto (tgt := 75) (aX12_isKnown 37 rfl) (by decide) ?_
                  exact pw_iret (aX12_isKnown 39 rfl) hok
            · skip
              refine pw_iloadn (aX12_isKnown 27 rfl) rfl ?_
              refine pw_sipush (v := (153 : Int32)) (aX12_isKnown 28 rfl) rfl ?_
              refine pw_ite (pw_icle (tgt := 70) (aX12_isKnown 29 rfl) (by decide) (fun b14 => ?_) (fun b14 => ?_))
              · skip
                refine pw_iloadn (aX12_isKnown 30 rfl) rfl ?_
                refine pw_sipush (v := (155 : Int32)) (aX12_isKnown 31 rfl) rfl ?_
                refine pw_ite (pw_iclt (tgt := 74) (aX12_isKnown 32 rfl) (by decide) (fun b15 => ?_) (fun b15 => ?_))
                · skip
                  refine pw_iconst (v := (0 : Int32)) (aX12_isKnown 38 rfl) rfl ?_
                  exact pw_iret (aX12_isKnown 39 rfl) hok
                · skip
                  refine pw_iloadn (aX12_isKnown 33 rfl) rfl ?_
                  refine pw_sipush (v := (159 : Int32)) (aX12_isKnown 34 rfl) rfl ?_
                  refine pw_ite (pw_icgt (tgt := 74) (aX12_isKnown 35 rfl) (by decide) (fun b16 => ?_) (fun b16 => ?_))
                  · skip
                    refine pw_iconst (v := (0 : Int32)) (aX12_isKnown 38 rfl) rfl ?_
                    exact pw_iret (aX12_isKnown 39 rfl) hok
                  · skip
                    refine pw_iconst (v := (1 : Int32)) (aX12_isKnown 36 rfl) rfl ?_
                    refine pw_goto (tgt := 75) (aX12_isKnown 37 rfl) (by decide) ?_
                    exact pw_iret (aX12_isKnown 39 rfl) hok
              · skip
                refine pw_iconst (v := (1 : Int32)) (aX12_isKnown 36 rfl) rfl ?_
                refine pw_goto (tgt := 75) (aX12_isKnown 37 rfl) (by decide) ?_
                exact pw_iret (aX12_isKnown 39 rfl) hok
          · skip
            refine pw_iconst (v := (1 : Int32)) (aX12_isKnown 22 rfl) rfl ?_
            exact pw_iret (aX12_isKnown 23 rfl) hok
      · skip
        refine pw_iloadn (aX12_isKnown 11 rfl) rfl ?_
        refine pw_bipush (v := (23 : Int32)) (aX12_isKnown 12 rfl) rfl ?_
        refine pw_ite (pw_icgt (tgt := 27) (aX12_isKnown 13 rfl) (by decide) (fun b17 => ?_) (fun b17 => ?_))
        · skip
          refine pw_iloadn (aX12_isKnown 16 rfl) rfl ?_
          refine pw_bipush (v := (25 : Int32)) (aX12_isKnown 17 rfl) rfl ?_
          refine pw_ite (pw_iclt (tgt := 42) (aX12_isKnown 18 rfl) (by decide) (fun b18 => ?_) (fun b18 => ?_))
          · skip
            refine pw_iloadn (aX12_isKnown 24 rfl) rfl ?_
            refine pw_sipush (v := (150 : Int32)) (aX12_isKnown 25 rfl) rfl ?_
            refine pw_ite (pw_iclt (tgt := 56) (aX12_isKnown 26 rfl) (by decide) (fun b19 => ?_) (fun b19 => ?_))
            · skip
              refine pw_iloadn (aX12_isKnown 30 rfl) rfl ?_
              refine pw_sipush (v := (155 : Int32)) (aX12_isKnown 31 rfl) rfl ?_
              refine pw_ite (pw_iclt (tgt := 74) (aX12_isKnown 32 rfl) (by decide) (fun b20 => ?_) (fun b20 => ?_))
              · skip
                refine pw_iconst (v := (0 : Int32)) (aX12_isKnown 38 rfl) rfl ?_
                exact pw_iret (aX12_isKnown 39 rfl) hok
              · skip
                refine pw_iloadn (aX12_isKnown 33 rfl) rfl ?_
                refine pw_sipush (v := (159 : Int32)) (aX12_isKnown 34 rfl) rfl ?_
                refine pw_ite (pw_icgt (tgt := 74) (aX12_isKnown 35 rfl) (by decide) (fun b21 => ?_) (fun b21 => ?_))
                · skip
                  refine pw_iconst (v := (0 : Int32)) (aX12_isKnown 38 rfl) rfl ?_
                  exact pw_iret (aX12_isKnown 39 rfl) hok
                · skip
                  refine pw_iconst (v := (1 : Int32)) (aX12_isKnown 36 rfl) rfl ?_
                  refine pw_goto (tgt := 75) (aX12_isKnown 37 rfl) (by decide) ?_
                  exact pw_iret (aX12_isKnown 39 rfl) hok
            · skip
              refine pw_iloadn (aX12_isKnown 27 rfl) rfl ?_
              refine pw_sipush (v := (153 : Int32)) (aX12_isKnown 28 rfl) rfl ?_
              refine pw_ite (pw_icle (tgt := 70) (aX12_isKnown 29 rfl) (by decide) (fun b22 => ?_) (fun b22 => ?_))
              · skip
                refine pw_iloadn (aX12_isKnown 30 rfl) rfl ?_
                refine pw_sipush (v := (155 : Int32)) (aX12_isKnown 31 rfl) rfl ?_
                refine pw_ite (pw_iclt (tgt := 74) (aX12_isKnown 32 rfl) (by decide) (fun b23 => ?_) (fun b23 => ?_))
                · skip
                  refine pw_iconst (v := (0 : Int32)) (aX12_isKnown 38 rfl) rfl ?_
                  exact pw_iret (aX12_isKnown 39 rfl) hok
                · skip
                  refine pw_iloadn (aX12_isKnown 33 rfl) rfl ?_
                  refine pw_sipush (v := (159 : Int32)) (aX12_isKnown 34 rfl) rfl ?_
                  refine pw_ite (pw_icgt (tgt := 74) (aX12_isKnown 35 rfl) (by decide) (fun b24 => ?_) (fun b24 => ?_))
                  · skip
                    refine pw_iconst (v := (0 : Int32)) (aX12_isKnown 38 rfl) rfl ?_
                    exact pw_iret (aX12_isKnown 39 rfl) hok
                  · skip
                    refine pw_iconst (v := (1 : Int32)) (aX12_isKnown 36 rfl) rfl ?_
                    refine pw_goto (tgt := 75) (aX12_isKnown 37 rfl) (by decide) ?_
                    exact pw_iret (aX12_isKnown 39 rfl) hok
              · skip
                refine pw_iconst (v := (1 : Int32)) (aX12_isKnown 36 rfl) rfl ?_
                refine pw_goto (tgt := 75) (aX12_isKnown 37 rfl) (by decide) ?_
                exact pw_iret (aX12_isKnown 39 rfl) hok
          · skip
            refine pw_iloadn (aX12_isKnown 19 rfl) rfl ?_
            refine pw_sipush (v := (148 : Int32)) (aX12_isKnown 20 rfl) rfl ?_
            refine pw_ite (pw_icgt (tgt := 42) (aX12_isKnown 21 rfl) (by decide) (fun b25 => ?_) (fun b25 => ?_))
            · skip
              refine pw_iloadn (aX12_isKnown 24 rfl) rfl ?_
              refine pw_sipush (v := (150 : Int32)) (aX12_isKnown 25 rfl) rfl ?_
              refine pw_ite (pw_iclt (tgt := 56) (aX12_isKnown 26 rfl) (by decide) (fun b26 => ?_) (fun b26 => ?_))
              · skip
                refine pw_iloadn (aX12_isKnown 30 rfl) rfl ?_
                refine pw_sipush (v := (155 : Int32)) (aX12_isKnown 31 rfl) rfl ?_
                refine pw_ite (pw_iclt (tgt := 74) (aX12_isKnown 32 rfl) (by decide) (fun b27 => ?_) (fun b27 => ?_))
                · skip
                  refine pw_iconst (v := (0 : Int32)) (aX12_isKnown 38 rfl) rfl ?_
                  exact pw_iret (aX12_isKnown 39 rfl) hok
                · skip
                  refine pw_iloadn (aX12_isKnown 33 rfl) rfl ?_
                  refine pw_sipush (v := (159 : Int32)) (aX12_isKnown 34 rfl) rfl ?_
                  refine pw_ite (pw_icgt (tgt := 74) (aX12_isKnown 35 rfl) (by decide) (fun b28 => ?_) (fun b28 => ?_))
                  · skip
                    refine pw_iconst (v := (0 : Int32)) (aX12_isKnown 38 rfl) rfl ?_
                    exact pw_iret (aX12_isKnown 39 rfl) hok
                  · skip
                    refine pw_iconst (v := (1 : Int32)) (aX12_isKnown 36 rfl) rfl ?_
                    refine pw_goto (tgt := 75) (aX12_isKnown 37 rfl) (by decide) ?_
                    exact pw_iret (aX12_isKnown 39 rfl) hok
              · skip
                refine pw_iloadn (aX12_isKnown 27 rfl) rfl ?_
                refine pw_sipush (v := (153 : Int32)) (aX12_isKnown 28 rfl) rfl ?_
                refine pw_ite (pw_icle (tgt := 70) (aX12_isKnown 29 rfl) (by decide) (fun b29 => ?_) (fun b29 => ?_))
                · skip
                  refine pw_iloadn (aX12_isKnown 30 rfl) rfl ?_
                  refine pw_sipush (v := (155 : Int32)) (aX12_isKnown 31 rfl) rfl ?_
                  refine pw_ite (pw_iclt (tgt := 74) (aX12_isKnown 32 rfl) (by decide) (fun b30 => ?_) (fun b30 => ?_))
                  · skip
                    refine pw_iconst (v := (0 : Int32)) (aX12_isKnown 38 rfl) rfl ?_
                    exact pw_iret (aX12_isKnown 39 rfl) hok
                  · skip
                    refine pw_iloadn (aX12_isKnown 33 rfl) rfl ?_
                    refine pw_sipush (v := (159 : Int32)) (aX12_isKnown 34 rfl) rfl ?_
                    refine pw_ite (pw_icgt (tgt := 74) (aX12_isKnown 35 rfl) (by decide) (fun b31 => ?_) (fun b31 => ?_))
                    · skip
                      refine pw_iconst (v := (0 : Int32)) (aX12_isKnown 38 rfl) rfl ?_
                      exact pw_iret (aX12_isKnown 39 rfl) hok
                    · skip
                      refine pw_iconst (v := (1 : Int32)) (aX12_isKnown 36 rfl) rfl ?_
                      refine pw_goto (tgt := 75) (aX12_isKnown 37 rfl) (by decide) ?_
                      exact pw_iret (aX12_isKnown 39 rfl) hok
                · skip
                  refine pw_iconst (v := (1 : Int32)) (aX12_isKnown 36 rfl) rfl ?_
                  refine pw_goto (tgt := 75) (aX12_isKnown 37 rfl) (by decide) ?_
                  exact pw_iret (aX12_isKnown 39 rfl) hok
            · skip
              refine pw_iconst (v := (1 : Int32)) (aX12_isKnown 22 rfl) rfl ?_
              exact pw_iret (aX12_isKnown 23 rfl) hok
        · skip
          refine pw_iconst (v := (1 : Int32)) (aX12_isKnown 14 rfl) rfl ?_
          exact pw_iret (aX12_isKnown 15 rfl) hok
set_option maxHeartbeats 4000000 in
set_option maxRecDepth 100000 in
theorem rX12_operands_397 {sk : xK} {base N d : Nat}  (hkb : x_kb sk base) (a1 : Int32) (a2 : Int32)   (n sl : Nat) (SH : Nat → Nat × Nat) (FI : Nat → Nat → Int32) (FL : Nat → Nat → Int64) (FR : Nat → Nat → Option Nat) (hok : pk n SH FR)   : pw pj_V sk base N d none 171 397 [(0, .ref (base + 121)), (1, .int (a1)), (2, .int (a2))] [] (n, sl, SH, FI, FL, FR) (RX12_operands_397  a1 a2  n sl SH FI FL FR) := by
  unfold RX12_operands_397
  refine pw_aloadn (aX12_operands 209 rfl) rfl ?_
  refine pw_getr (v := .int (FI 121 38)) (aX12_operands 210 rfl) uf_RX12_220 un_RX12_220 rfl ?_
  refine pw_ifne (tgt := 427) (aX12_operands 211 rfl) (by decide) (fun b0 => ?_) (fun b0 => ?_)
  · skip
    refine pw_aloadn (aX12_operands 212 rfl) rfl ?_
    refine pw_aloadn (aX12_operands 213 rfl) rfl ?_
    refine pw_getr (v := .int (FI 121 37)) (aX12_operands 214 rfl) uf_RX12_223 un_RX12_223 rfl ?_
    refine pw_i2l (aX12_operands 215 rfl) ?_
    refine pw_putrl (aX12_operands 216 rfl) uf_RX12_231 (fun _ _ _ => rfl) (fun t2 => ?_)
    refine pw_aloadn (aX12_operands 217 rfl) rfl ?_
    refine pw_aloadn (aX12_operands 218 rfl) rfl ?_
    refine pw_getr (v := .int (FI 121 37)) (aX12_operands 219 rfl) uf_RX12_223 un_RX12_223 rfl ?_
    refine pw_aloadn (aX12_operands 220 rfl) rfl ?_
    refine pw_getr (v := .long (FL 121 35)) (aX12_operands 221 rfl) uf_RX12_228 un_RX12_228 rfl ?_
    refine pw_l2i (aX12_operands 222 rfl) ?_
    refine pw_iadd (aX12_operands 223 rfl) ?_
    refine pw_putri (aX12_operands 224 rfl) uf_RX12_223 (fun _ _ _ => rfl) (fun t3 => ?_)
    exact pw_vret (aX12_operands 225 rfl) hok
  · skip
    exact pw_vret (aX12_operands 225 rfl) hok
set_option maxHeartbeats 4000000 in
set_option maxRecDepth 100000 in
theorem rX12_operands_392 {sk : xK} {base N d : Nat}  (hkb : x_kb sk base) (a1 : Int32) (a2 : Int32)   (n sl : Nat) (SH : Nat → Nat × Nat) (FI : Nat → Nat → Int32) (FL : Nat → Nat → Int64) (FR : Nat → Nat → Option Nat) (hok : pk n SH FR)   : pw pj_V sk base N d none 171 392 [(0, .ref (base + 121)), (1, .int (a1)), (2, .int (a2))] [] (n, sl, SH, FI, FL, FR) (RX12_operands_392  a1 a2  n sl SH FI FL FR) := by
  unfold RX12_operands_392
  refine pw_aloadn (aX12_operands 206 rfl) rfl ?_
  refine pw_iconst (v := (1 : Int32)) (aX12_operands 207 rfl) rfl ?_
  refine pw_putri (aX12_operands 208 rfl) uf_RX12_220 (fun _ _ _ => rfl) (fun t1 => ?_)
  exact pw_Li (L2 := [(0, .ref (base + 121)), (1, .int (a1)), (2, .int (a2))]) [0, 1, 2] (rX12_operands_397 hkb a1 a2  n sl SH (h_up FI 121 38 ((1 : Int32))) FL FR hok  ) ⟨rfl, rfl, rfl, trivial⟩
set_option maxHeartbeats 4000000 in
set_option maxRecDepth 100000 in
theorem rX12_operands_264 {sk : xK} {base N d : Nat}  (hkb : x_kb sk base) (a1 : Int32) (a2 : Int32)   (n sl : Nat) (SH : Nat → Nat × Nat) (FI : Nat → Nat → Int32) (FL : Nat → Nat → Int64) (FR : Nat → Nat → Option Nat) (hok : pk n SH FR)   : pw pj_V sk base N d none 171 264 [(0, .ref (base + 121)), (1, .int (a1)), (2, .int (a2))] [] (n, sl, SH, FI, FL, FR) (RX12_operands_264  a1 a2  n sl SH FI FL FR) := by
  unfold RX12_operands_264
  refine pw_iloadn (aX12_operands 138 rfl) rfl ?_
  refine pw_sipush (v := (145 : Int32)) (aX12_operands 139 rfl) rfl ?_
  refine pw_icne (tgt := 284) (aX12_operands 140 rfl) (by decide) (fun b0 => ?_) (fun b0 => ?_)
  · skip
    refine pw_aloadn (aX12_operands 141 rfl) rfl ?_
    refine pw_aloadn (aX12_operands 142 rfl) rfl ?_
    refine pw_iconst (v := (1 : Int32)) (aX12_operands 143 rfl) rfl ?_
    refine pw_iloadn (aX12_operands 144 rfl) rfl ?_
    refine pw_callV (Bs := [.int ((1 : Int32)), .int (a2)]) (rest := [.ref (base + 121)]) (aX12_operands 145 rfl) um_RX12_238 ujX12_leb wc_RX12_238.2.2.2.2 (by decide) (by decide) rfl rfl (fun d => rX12_leb hkb ((1 : Int32)) (a2) n sl SH FI FL FR hok) (fun v1 n1 sl1 SH1 FI1 FL1 FR1 hok1 _ => ?_)
    show pw _ _ _ _ _ _ _ 278 _ [.long (v1), .ref (base + 121)] _ _
    refine pw_putrl (aX12_operands 146 rfl) uf_RX12_228 (fun _ _ _ => rfl) (fun t3 => ?_)
    refine pw_goto (tgt := 427) (aX12_operands 147 rfl) (by decide) ?_
    exact pw_vret (aX12_operands 225 rfl) hok1
  · skip
    refine pw_iloadn (aX12_operands 148 rfl) rfl ?_
    refine pw_sipush (v := (146 : Int32)) (aX12_operands 149 rfl) rfl ?_
    refine pw_icne (tgt := 314) (aX12_operands 150 rfl) (by decide) (fun b3 => ?_) (fun b3 => ?_)
    · skip
      refine pw_aloadn (aX12_operands 151 rfl) rfl ?_
      refine pw_aloadn (aX12_operands 152 rfl) rfl ?_
      refine pw_iconst (v := (0 : Int32)) (aX12_operands 153 rfl) rfl ?_
      refine pw_iloadn (aX12_operands 154 rfl) rfl ?_
      refine pw_callV (Bs := [.int ((0 : Int32)), .int (a2)]) (rest := [.ref (base + 121)]) (aX12_operands 155 rfl) um_RX12_238 ujX12_leb wc_RX12_238.2.2.2.2 (by decide) (by decide) rfl rfl (fun d => rX12_leb hkb ((0 : Int32)) (a2) n sl SH FI FL FR hok) (fun v4 n4 sl4 SH4 FI4 FL4 FR4 hok4 _ => ?_)
      show pw _ _ _ _ _ _ _ 298 _ [.long (v4), .ref (base + 121)] _ _
      refine pw_putrl (aX12_operands 156 rfl) uf_RX12_228 (fun _ _ _ => rfl) (fun t6 => ?_)
      refine pw_aloadn (aX12_operands 157 rfl) rfl ?_
      refine pw_aloadn (aX12_operands 158 rfl) rfl ?_
      refine pw_iconst (v := (1 : Int32)) (aX12_operands 159 rfl) rfl ?_
      refine pw_iloadn (aX12_operands 160 rfl) rfl ?_
      refine pw_callV (Bs := [.int ((1 : Int32)), .int (a2)]) (rest := [.ref (base + 121)]) (aX12_operands 161 rfl) um_RX12_238 ujX12_leb wc_RX12_238.2.2.2.2 (by decide) (by decide) rfl rfl (fun d => rX12_leb hkb ((1 : Int32)) (a2) n4 sl4 SH4 FI4 (h_up FL4 121 35 (v4)) FR4 hok4) (fun v6 n6 sl6 SH6 FI6 FL6 FR6 hok6 _ => ?_)
      show pw _ _ _ _ _ _ _ 308 _ [.long (v6), .ref (base + 121)] _ _
      refine pw_putrl (aX12_operands 162 rfl) uf_RX12_231 (fun _ _ _ => rfl) (fun t8 => ?_)
      refine pw_goto (tgt := 427) (aX12_operands 163 rfl) (by decide) ?_
      exact pw_vret (aX12_operands 225 rfl) hok6
    · skip
      refine pw_iloadn (aX12_operands 164 rfl) rfl ?_
      refine pw_sipush (v := (157 : Int32)) (aX12_operands 165 rfl) rfl ?_
      refine pw_icne (tgt := 344) (aX12_operands 166 rfl) (by decide) (fun b8 => ?_) (fun b8 => ?_)
      · skip
        refine pw_aloadn (aX12_operands 167 rfl) rfl ?_
        refine pw_aloadn (aX12_operands 168 rfl) rfl ?_
        refine pw_iconst (v := (0 : Int32)) (aX12_operands 169 rfl) rfl ?_
        refine pw_iloadn (aX12_operands 170 rfl) rfl ?_
        refine pw_callV (Bs := [.int ((0 : Int32)), .int (a2)]) (rest := [.ref (base + 121)]) (aX12_operands 171 rfl) um_RX12_238 ujX12_leb wc_RX12_238.2.2.2.2 (by decide) (by decide) rfl rfl (fun d => rX12_leb hkb ((0 : Int32)) (a2) n sl SH FI FL FR hok) (fun v9 n9 sl9 SH9 FI9 FL9 FR9 hok9 _ => ?_)
        show pw _ _ _ _ _ _ _ 328 _ [.long (v9), .ref (base + 121)] _ _
        refine pw_putrl (aX12_operands 172 rfl) uf_RX12_228 (fun _ _ _ => rfl) (fun t11 => ?_)
        refine pw_aloadn (aX12_operands 173 rfl) rfl ?_
        refine pw_aloadn (aX12_operands 174 rfl) rfl ?_
        refine pw_iconst (v := (0 : Int32)) (aX12_operands 175 rfl) rfl ?_
        refine pw_iloadn (aX12_operands 176 rfl) rfl ?_
        refine pw_callV (Bs := [.int ((0 : Int32)), .int (a2)]) (rest := [.ref (base + 121)]) (aX12_operands 177 rfl) um_RX12_238 ujX12_leb wc_RX12_238.2.2.2.2 (by decide) (by decide) rfl rfl (fun d => rX12_leb hkb ((0 : Int32)) (a2) n9 sl9 SH9 FI9 (h_up FL9 121 35 (v9)) FR9 hok9) (fun v11 n11 sl11 SH11 FI11 FL11 FR11 hok11 _ => ?_)
        show pw _ _ _ _ _ _ _ 338 _ [.long (v11), .ref (base + 121)] _ _
        refine pw_putrl (aX12_operands 178 rfl) uf_RX12_231 (fun _ _ _ => rfl) (fun t13 => ?_)
        refine pw_goto (tgt := 427) (aX12_operands 179 rfl) (by decide) ?_
        exact pw_vret (aX12_operands 225 rfl) hok11
      · skip
        refine pw_iloadn (aX12_operands 180 rfl) rfl ?_
        refine pw_sipush (v := (158 : Int32)) (aX12_operands 181 rfl) rfl ?_
        refine pw_icne (tgt := 427) (aX12_operands 182 rfl) (by decide) (fun b13 => ?_) (fun b13 => ?_)
        · skip
          refine pw_aloadn (aX12_operands 183 rfl) rfl ?_
          refine pw_aloadn (aX12_operands 184 rfl) rfl ?_
          refine pw_iconst (v := (0 : Int32)) (aX12_operands 185 rfl) rfl ?_
          refine pw_iloadn (aX12_operands 186 rfl) rfl ?_
          refine pw_callV (Bs := [.int ((0 : Int32)), .int (a2)]) (rest := [.ref (base + 121)]) (aX12_operands 187 rfl) um_RX12_238 ujX12_leb wc_RX12_238.2.2.2.2 (by decide) (by decide) rfl rfl (fun d => rX12_leb hkb ((0 : Int32)) (a2) n sl SH FI FL FR hok) (fun v14 n14 sl14 SH14 FI14 FL14 FR14 hok14 _ => ?_)
          show pw _ _ _ _ _ _ _ 358 _ [.long (v14), .ref (base + 121)] _ _
          refine pw_putrl (aX12_operands 188 rfl) uf_RX12_228 (fun _ _ _ => rfl) (fun t16 => ?_)
          refine pw_aloadn (aX12_operands 189 rfl) rfl ?_
          refine pw_getr (v := .int (FI14 121 38)) (aX12_operands 190 rfl) uf_RX12_220 un_RX12_220 rfl ?_
          refine pw_ifne (tgt := 397) (aX12_operands 191 rfl) (by decide) (fun b16 => ?_) (fun b16 => ?_)
          · skip
            refine pw_aloadn (aX12_operands 192 rfl) rfl ?_
            refine pw_getr (v := .long (v14)) (aX12_operands 193 rfl) uf_RX12_228 un_RX12_228 rfl ?_
            refine pw_lconst (v := (0 : Int64)) (aX12_operands 194 rfl) rfl ?_
            refine pw_lclt (tgt := 392) (aX12_operands 195 rfl) (aX12_operands 196 rfl) (by decide) (fun b17 => ?_) (fun b17 => ?_)
            · skip
              exact pw_Li (L2 := [(0, .ref (base + 121)), (1, .int (a1)), (2, .int (a2))]) [0, 1, 2] (rX12_operands_392 hkb a1 a2  n14 sl14 SH14 FI14 (h_up FL14 121 35 (v14)) FR14 hok14  ) ⟨rfl, rfl, rfl, trivial⟩
            · skip
              refine pw_aloadn (aX12_operands 197 rfl) rfl ?_
              refine pw_getr (v := .long (v14)) (aX12_operands 198 rfl) uf_RX12_228 un_RX12_228 rfl ?_
              refine pw_iloadn (aX12_operands 199 rfl) rfl ?_
              refine pw_aloadn (aX12_operands 200 rfl) rfl ?_
              refine pw_getr (v := .int (FI14 121 37)) (aX12_operands 201 rfl) uf_RX12_223 un_RX12_223 rfl ?_
              refine pw_isub (aX12_operands 202 rfl) ?_
              refine pw_i2l (aX12_operands 203 rfl) ?_
              refine pw_lcle (tgt := 397) (aX12_operands 204 rfl) (aX12_operands 205 rfl) (by decide) (fun b18 => ?_) (fun b18 => ?_)
              · skip
                exact pw_Li (L2 := [(0, .ref (base + 121)), (1, .int (a1)), (2, .int (a2))]) [0, 1, 2] (rX12_operands_392 hkb a1 a2  n14 sl14 SH14 FI14 (h_up FL14 121 35 (v14)) FR14 hok14  ) ⟨rfl, rfl, rfl, trivial⟩
              · skip
                exact pw_Li (L2 := [(0, .ref (base + 121)), (1, .int (a1)), (2, .int (a2))]) [0, 1, 2] (rX12_operands_397 hkb a1 a2  n14 sl14 SH14 FI14 (h_up FL14 121 35 (v14)) FR14 hok14  ) ⟨rfl, rfl, rfl, trivial⟩
          · skip
            exact pw_Li (L2 := [(0, .ref (base + 121)), (1, .int (a1)), (2, .int (a2))]) [0, 1, 2] (rX12_operands_397 hkb a1 a2  n14 sl14 SH14 FI14 (h_up FL14 121 35 (v14)) FR14 hok14  ) ⟨rfl, rfl, rfl, trivial⟩
        · skip
          exact pw_vret (aX12_operands 225 rfl) hok
set_option maxHeartbeats 4000000 in
set_option maxRecDepth 100000 in
theorem rX12_operands {sk : xK} {base N d : Nat} (hkb : x_kb sk base) (a1 : Int32) (a2 : Int32) (n sl : Nat) (SH : Nat → Nat × Nat) (FI : Nat → Nat → Int32) (FL : Nat → Nat → Int64) (FR : Nat → Nat → Option Nat) (hok : pk n SH FR)  : pw pj_V sk base N d none 171 0 [(0, .ref (base + 121)), (1, .int (a1)), (2, .int (a2))] [] (n, sl, SH, FI, FL, FR) (RX12_operands a1 a2 n sl SH FI FL FR) := by
  unfold RX12_operands
  refine pw_aloadn (aX12_operands 0 rfl) rfl ?_
  refine pw_iconst (v := (0 : Int32)) (aX12_operands 1 rfl) rfl ?_
  refine pw_putri (aX12_operands 2 rfl) uf_RX12_220 (fun _ _ _ => rfl) (fun t1 => ?_)
  refine pw_aloadn (aX12_operands 3 rfl) rfl ?_
  refine pw_lconst (v := (0 : Int64)) (aX12_operands 4 rfl) rfl ?_
  refine pw_putrl (aX12_operands 5 rfl) uf_RX12_228 (fun _ _ _ => rfl) (fun t2 => ?_)
  refine pw_aloadn (aX12_operands 6 rfl) rfl ?_
  refine pw_lconst (v := (0 : Int64)) (aX12_operands 7 rfl) rfl ?_
  refine pw_putrl (aX12_operands 8 rfl) uf_RX12_231 (fun _ _ _ => rfl) (fun t3 => ?_)
  refine pw_iloadn (aX12_operands 9 rfl) rfl ?_
  refine pw_iconst (v := (3 : Int32)) (aX12_operands 10 rfl) rfl ?_
  refine pw_iceq (tgt := 32) (aX12_operands 11 rfl) (by decide) (fun b3 => ?_) (fun b3 => ?_)
  · skip
    refine pw_aloadn (aX12_operands 18 rfl) rfl ?_
    refine pw_aloadn (aX12_operands 19 rfl) rfl ?_
    refine pw_bipush (v := (8 : Int32)) (aX12_operands 20 rfl) rfl ?_
    refine pw_iconst (v := (0 : Int32)) (aX12_operands 21 rfl) rfl ?_
    refine pw_iloadn (aX12_operands 22 rfl) rfl ?_
    refine pw_callV (Bs := [.int ((8 : Int32)), .int ((0 : Int32)), .int (a2)]) (rest := [.ref (base + 121)]) (aX12_operands 23 rfl) um_RX12_234 ujX12_fixed wc_RX12_234.2.2.2.2 (by decide) (by decide) rfl rfl (fun d => rX12_fixed hkb ((8 : Int32)) ((0 : Int32)) (a2) n sl SH (h_up FI 121 38 ((0 : Int32))) (h_up (h_up FL 121 35 ((0 : Int64))) 121 36 ((0 : Int64))) FR hok) (fun v4 n4 sl4 SH4 FI4 FL4 FR4 hok4 _ => ?_)
    show pw _ _ _ _ _ _ _ 41 _ [.long (v4), .ref (base + 121)] _ _
    refine pw_putrl (aX12_operands 24 rfl) uf_RX12_228 (fun _ _ _ => rfl) (fun t6 => ?_)
    refine pw_goto (tgt := 427) (aX12_operands 25 rfl) (by decide) ?_
    exact pw_vret (aX12_operands 225 rfl) hok4
  · skip
    refine pw_iloadn (aX12_operands 12 rfl) rfl ?_
    refine pw_bipush (v := (14 : Int32)) (aX12_operands 13 rfl) rfl ?_
    refine pw_iceq (tgt := 32) (aX12_operands 14 rfl) (by decide) (fun b6 => ?_) (fun b6 => ?_)
    · skip
      refine pw_aloadn (aX12_operands 18 rfl) rfl ?_
      refine pw_aloadn (aX12_operands 19 rfl) rfl ?_
      refine pw_bipush (v := (8 : Int32)) (aX12_operands 20 rfl) rfl ?_
      refine pw_iconst (v := (0 : Int32)) (aX12_operands 21 rfl) rfl ?_
      refine pw_iloadn (aX12_operands 22 rfl) rfl ?_
      refine pw_callV (Bs := [.int ((8 : Int32)), .int ((0 : Int32)), .int (a2)]) (rest := [.ref (base + 121)]) (aX12_operands 23 rfl) um_RX12_234 ujX12_fixed wc_RX12_234.2.2.2.2 (by decide) (by decide) rfl rfl (fun d => rX12_fixed hkb ((8 : Int32)) ((0 : Int32)) (a2) n sl SH (h_up FI 121 38 ((0 : Int32))) (h_up (h_up FL 121 35 ((0 : Int64))) 121 36 ((0 : Int64))) FR hok) (fun v7 n7 sl7 SH7 FI7 FL7 FR7 hok7 _ => ?_)
      show pw _ _ _ _ _ _ _ 41 _ [.long (v7), .ref (base + 121)] _ _
      refine pw_putrl (aX12_operands 24 rfl) uf_RX12_228 (fun _ _ _ => rfl) (fun t9 => ?_)
      refine pw_goto (tgt := 427) (aX12_operands 25 rfl) (by decide) ?_
      exact pw_vret (aX12_operands 225 rfl) hok7
    · skip
      refine pw_iloadn (aX12_operands 15 rfl) rfl ?_
      refine pw_bipush (v := (15 : Int32)) (aX12_operands 16 rfl) rfl ?_
      refine pw_icne (tgt := 47) (aX12_operands 17 rfl) (by decide) (fun b9 => ?_) (fun b9 => ?_)
      · skip
        refine pw_aloadn (aX12_operands 18 rfl) rfl ?_
        refine pw_aloadn (aX12_operands 19 rfl) rfl ?_
        refine pw_bipush (v := (8 : Int32)) (aX12_operands 20 rfl) rfl ?_
        refine pw_iconst (v := (0 : Int32)) (aX12_operands 21 rfl) rfl ?_
        refine pw_iloadn (aX12_operands 22 rfl) rfl ?_
        refine pw_callV (Bs := [.int ((8 : Int32)), .int ((0 : Int32)), .int (a2)]) (rest := [.ref (base + 121)]) (aX12_operands 23 rfl) um_RX12_234 ujX12_fixed wc_RX12_234.2.2.2.2 (by decide) (by decide) rfl rfl (fun d => rX12_fixed hkb ((8 : Int32)) ((0 : Int32)) (a2) n sl SH (h_up FI 121 38 ((0 : Int32))) (h_up (h_up FL 121 35 ((0 : Int64))) 121 36 ((0 : Int64))) FR hok) (fun v10 n10 sl10 SH10 FI10 FL10 FR10 hok10 _ => ?_)
        show pw _ _ _ _ _ _ _ 41 _ [.long (v10), .ref (base + 121)] _ _
        refine pw_putrl (aX12_operands 24 rfl) uf_RX12_228 (fun _ _ _ => rfl) (fun t12 => ?_)
        refine pw_goto (tgt := 427) (aX12_operands 25 rfl) (by decide) ?_
        exact pw_vret (aX12_operands 225 rfl) hok10
      · skip
        refine pw_iloadn (aX12_operands 26 rfl) rfl ?_
        refine pw_bipush (v := (8 : Int32)) (aX12_operands 27 rfl) rfl ?_
        refine pw_iceq (tgt := 66) (aX12_operands 28 rfl) (by decide) (fun b12 => ?_) (fun b12 => ?_)
        · skip
          refine pw_aloadn (aX12_operands 35 rfl) rfl ?_
          refine pw_aloadn (aX12_operands 36 rfl) rfl ?_
          refine pw_iconst (v := (1 : Int32)) (aX12_operands 37 rfl) rfl ?_
          refine pw_iconst (v := (0 : Int32)) (aX12_operands 38 rfl) rfl ?_
          refine pw_iloadn (aX12_operands 39 rfl) rfl ?_
          refine pw_callV (Bs := [.int ((1 : Int32)), .int ((0 : Int32)), .int (a2)]) (rest := [.ref (base + 121)]) (aX12_operands 40 rfl) um_RX12_234 ujX12_fixed wc_RX12_234.2.2.2.2 (by decide) (by decide) rfl rfl (fun d => rX12_fixed hkb ((1 : Int32)) ((0 : Int32)) (a2) n sl SH (h_up FI 121 38 ((0 : Int32))) (h_up (h_up FL 121 35 ((0 : Int64))) 121 36 ((0 : Int64))) FR hok) (fun v13 n13 sl13 SH13 FI13 FL13 FR13 hok13 _ => ?_)
          show pw _ _ _ _ _ _ _ 74 _ [.long (v13), .ref (base + 121)] _ _
          refine pw_putrl (aX12_operands 41 rfl) uf_RX12_228 (fun _ _ _ => rfl) (fun t15 => ?_)
          refine pw_goto (tgt := 427) (aX12_operands 42 rfl) (by decide) ?_
          exact pw_vret (aX12_operands 225 rfl) hok13
        · skip
          refine pw_iloadn (aX12_operands 29 rfl) rfl ?_
          refine pw_bipush (v := (21 : Int32)) (aX12_operands 30 rfl) rfl ?_
          refine pw_iceq (tgt := 66) (aX12_operands 31 rfl) (by decide) (fun b15 => ?_) (fun b15 => ?_)
          · skip
            refine pw_aloadn (aX12_operands 35 rfl) rfl ?_
            refine pw_aloadn (aX12_operands 36 rfl) rfl ?_
            refine pw_iconst (v := (1 : Int32)) (aX12_operands 37 rfl) rfl ?_
            refine pw_iconst (v := (0 : Int32)) (aX12_operands 38 rfl) rfl ?_
            refine pw_iloadn (aX12_operands 39 rfl) rfl ?_
            refine pw_callV (Bs := [.int ((1 : Int32)), .int ((0 : Int32)), .int (a2)]) (rest := [.ref (base + 121)]) (aX12_operands 40 rfl) um_RX12_234 ujX12_fixed wc_RX12_234.2.2.2.2 (by decide) (by decide) rfl rfl (fun d => rX12_fixed hkb ((1 : Int32)) ((0 : Int32)) (a2) n sl SH (h_up FI 121 38 ((0 : Int32))) (h_up (h_up FL 121 35 ((0 : Int64))) 121 36 ((0 : Int64))) FR hok) (fun v16 n16 sl16 SH16 FI16 FL16 FR16 hok16 _ => ?_)
            show pw _ _ _ _ _ _ _ 74 _ [.long (v16), .ref (base + 121)] _ _
            refine pw_putrl (aX12_operands 41 rfl) uf_RX12_228 (fun _ _ _ => rfl) (fun t18 => ?_)
            refine pw_goto (tgt := 427) (aX12_operands 42 rfl) (by decide) ?_
            exact pw_vret (aX12_operands 225 rfl) hok16
          · skip
            refine pw_iloadn (aX12_operands 32 rfl) rfl ?_
            refine pw_sipush (v := (148 : Int32)) (aX12_operands 33 rfl) rfl ?_
            refine pw_icne (tgt := 80) (aX12_operands 34 rfl) (by decide) (fun b18 => ?_) (fun b18 => ?_)
            · skip
              refine pw_aloadn (aX12_operands 35 rfl) rfl ?_
              refine pw_aloadn (aX12_operands 36 rfl) rfl ?_
              refine pw_iconst (v := (1 : Int32)) (aX12_operands 37 rfl) rfl ?_
              refine pw_iconst (v := (0 : Int32)) (aX12_operands 38 rfl) rfl ?_
              refine pw_iloadn (aX12_operands 39 rfl) rfl ?_
              refine pw_callV (Bs := [.int ((1 : Int32)), .int ((0 : Int32)), .int (a2)]) (rest := [.ref (base + 121)]) (aX12_operands 40 rfl) um_RX12_234 ujX12_fixed wc_RX12_234.2.2.2.2 (by decide) (by decide) rfl rfl (fun d => rX12_fixed hkb ((1 : Int32)) ((0 : Int32)) (a2) n sl SH (h_up FI 121 38 ((0 : Int32))) (h_up (h_up FL 121 35 ((0 : Int64))) 121 36 ((0 : Int64))) FR hok) (fun v19 n19 sl19 SH19 FI19 FL19 FR19 hok19 _ => ?_)
              show pw _ _ _ _ _ _ _ 74 _ [.long (v19), .ref (base + 121)] _ _
              refine pw_putrl (aX12_operands 41 rfl) uf_RX12_228 (fun _ _ _ => rfl) (fun t21 => ?_)
              refine pw_goto (tgt := 427) (aX12_operands 42 rfl) (by decide) ?_
              exact pw_vret (aX12_operands 225 rfl) hok19
            · skip
              refine pw_iloadn (aX12_operands 43 rfl) rfl ?_
              refine pw_bipush (v := (9 : Int32)) (aX12_operands 44 rfl) rfl ?_
              refine pw_icne (tgt := 100) (aX12_operands 45 rfl) (by decide) (fun b21 => ?_) (fun b21 => ?_)
              · skip
                refine pw_aloadn (aX12_operands 46 rfl) rfl ?_
                refine pw_aloadn (aX12_operands 47 rfl) rfl ?_
                refine pw_iconst (v := (1 : Int32)) (aX12_operands 48 rfl) rfl ?_
                refine pw_iconst (v := (1 : Int32)) (aX12_operands 49 rfl) rfl ?_
                refine pw_iloadn (aX12_operands 50 rfl) rfl ?_
                refine pw_callV (Bs := [.int ((1 : Int32)), .int ((1 : Int32)), .int (a2)]) (rest := [.ref (base + 121)]) (aX12_operands 51 rfl) um_RX12_234 ujX12_fixed wc_RX12_234.2.2.2.2 (by decide) (by decide) rfl rfl (fun d => rX12_fixed hkb ((1 : Int32)) ((1 : Int32)) (a2) n sl SH (h_up FI 121 38 ((0 : Int32))) (h_up (h_up FL 121 35 ((0 : Int64))) 121 36 ((0 : Int64))) FR hok) (fun v22 n22 sl22 SH22 FI22 FL22 FR22 hok22 _ => ?_)
                show pw _ _ _ _ _ _ _ 94 _ [.long (v22), .ref (base + 121)] _ _
                refine pw_putrl (aX12_operands 52 rfl) uf_RX12_228 (fun _ _ _ => rfl) (fun t24 => ?_)
                refine pw_goto (tgt := 427) (aX12_operands 53 rfl) (by decide) ?_
                exact pw_vret (aX12_operands 225 rfl) hok22
              · skip
                refine pw_iloadn (aX12_operands 54 rfl) rfl ?_
                refine pw_bipush (v := (10 : Int32)) (aX12_operands 55 rfl) rfl ?_
                refine pw_iceq (tgt := 113) (aX12_operands 56 rfl) (by decide) (fun b24 => ?_) (fun b24 => ?_)
                · skip
                  refine pw_aloadn (aX12_operands 60 rfl) rfl ?_
                  refine pw_aloadn (aX12_operands 61 rfl) rfl ?_
                  refine pw_iconst (v := (2 : Int32)) (aX12_operands 62 rfl) rfl ?_
                  refine pw_iconst (v := (0 : Int32)) (aX12_operands 63 rfl) rfl ?_
                  refine pw_iloadn (aX12_operands 64 rfl) rfl ?_
                  refine pw_callV (Bs := [.int ((2 : Int32)), .int ((0 : Int32)), .int (a2)]) (rest := [.ref (base + 121)]) (aX12_operands 65 rfl) um_RX12_234 ujX12_fixed wc_RX12_234.2.2.2.2 (by decide) (by decide) rfl rfl (fun d => rX12_fixed hkb ((2 : Int32)) ((0 : Int32)) (a2) n sl SH (h_up FI 121 38 ((0 : Int32))) (h_up (h_up FL 121 35 ((0 : Int64))) 121 36 ((0 : Int64))) FR hok) (fun v25 n25 sl25 SH25 FI25 FL25 FR25 hok25 _ => ?_)
                  show pw _ _ _ _ _ _ _ 121 _ [.long (v25), .ref (base + 121)] _ _
                  refine pw_putrl (aX12_operands 66 rfl) uf_RX12_228 (fun _ _ _ => rfl) (fun t27 => ?_)
                  refine pw_goto (tgt := 427) (aX12_operands 67 rfl) (by decide) ?_
                  exact pw_vret (aX12_operands 225 rfl) hok25
                · skip
                  refine pw_iloadn (aX12_operands 57 rfl) rfl ?_
                  refine pw_sipush (v := (152 : Int32)) (aX12_operands 58 rfl) rfl ?_
                  refine pw_icne (tgt := 127) (aX12_operands 59 rfl) (by decide) (fun b27 => ?_) (fun b27 => ?_)
                  · skip
                    refine pw_aloadn (aX12_operands 60 rfl) rfl ?_
                    refine pw_aloadn (aX12_operands 61 rfl) rfl ?_
                    refine pw_iconst (v := (2 : Int32)) (aX12_operands 62 rfl) rfl ?_
                    refine pw_iconst (v := (0 : Int32)) (aX12_operands 63 rfl) rfl ?_
                    refine pw_iloadn (aX12_operands 64 rfl) rfl ?_
                    refine pw_callV (Bs := [.int ((2 : Int32)), .int ((0 : Int32)), .int (a2)]) (rest := [.ref (base + 121)]) (aX12_operands 65 rfl) um_RX12_234 ujX12_fixed wc_RX12_234.2.2.2.2 (by decide) (by decide) rfl rfl (fun d => rX12_fixed hkb ((2 : Int32)) ((0 : Int32)) (a2) n sl SH (h_up FI 121 38 ((0 : Int32))) (h_up (h_up FL 121 35 ((0 : Int64))) 121 36 ((0 : Int64))) FR hok) (fun v28 n28 sl28 SH28 FI28 FL28 FR28 hok28 _ => ?_)
                    show pw _ _ _ _ _ _ _ 121 _ [.long (v28), .ref (base + 121)] _ _
                    refine pw_putrl (aX12_operands 66 rfl) uf_RX12_228 (fun _ _ _ => rfl) (fun t30 => ?_)
                    refine pw_goto (tgt := 427) (aX12_operands 67 rfl) (by decide) ?_
                    exact pw_vret (aX12_operands 225 rfl) hok28
                  · skip
                    refine pw_iloadn (aX12_operands 68 rfl) rfl ?_
                    refine pw_bipush (v := (11 : Int32)) (aX12_operands 69 rfl) rfl ?_
                    refine pw_iceq (tgt := 145) (aX12_operands 70 rfl) (by decide) (fun b30 => ?_) (fun b30 => ?_)
                    · skip
                      refine pw_aloadn (aX12_operands 77 rfl) rfl ?_
                      refine pw_aloadn (aX12_operands 78 rfl) rfl ?_
                      refine pw_iconst (v := (2 : Int32)) (aX12_operands 79 rfl) rfl ?_
                      refine pw_iconst (v := (1 : Int32)) (aX12_operands 80 rfl) rfl ?_
                      refine pw_iloadn (aX12_operands 81 rfl) rfl ?_
                      refine pw_callV (Bs := [.int ((2 : Int32)), .int ((1 : Int32)), .int (a2)]) (rest := [.ref (base + 121)]) (aX12_operands 82 rfl) um_RX12_234 ujX12_fixed wc_RX12_234.2.2.2.2 (by decide) (by decide) rfl rfl (fun d => rX12_fixed hkb ((2 : Int32)) ((1 : Int32)) (a2) n sl SH (h_up FI 121 38 ((0 : Int32))) (h_up (h_up FL 121 35 ((0 : Int64))) 121 36 ((0 : Int64))) FR hok) (fun v31 n31 sl31 SH31 FI31 FL31 FR31 hok31 _ => ?_)
                      show pw _ _ _ _ _ _ _ 153 _ [.long (v31), .ref (base + 121)] _ _
                      refine pw_putrl (aX12_operands 83 rfl) uf_RX12_228 (fun _ _ _ => rfl) (fun t33 => ?_)
                      refine pw_goto (tgt := 427) (aX12_operands 84 rfl) (by decide) ?_
                      exact pw_vret (aX12_operands 225 rfl) hok31
                    · skip
                      refine pw_iloadn (aX12_operands 71 rfl) rfl ?_
                      refine pw_bipush (v := (40 : Int32)) (aX12_operands 72 rfl) rfl ?_
                      refine pw_iceq (tgt := 145) (aX12_operands 73 rfl) (by decide) (fun b33 => ?_) (fun b33 => ?_)
                      · skip
                        refine pw_aloadn (aX12_operands 77 rfl) rfl ?_
                        refine pw_aloadn (aX12_operands 78 rfl) rfl ?_
                        refine pw_iconst (v := (2 : Int32)) (aX12_operands 79 rfl) rfl ?_
                        refine pw_iconst (v := (1 : Int32)) (aX12_operands 80 rfl) rfl ?_
                        refine pw_iloadn (aX12_operands 81 rfl) rfl ?_
                        refine pw_callV (Bs := [.int ((2 : Int32)), .int ((1 : Int32)), .int (a2)]) (rest := [.ref (base + 121)]) (aX12_operands 82 rfl) um_RX12_234 ujX12_fixed wc_RX12_234.2.2.2.2 (by decide) (by decide) rfl rfl (fun d => rX12_fixed hkb ((2 : Int32)) ((1 : Int32)) (a2) n sl SH (h_up FI 121 38 ((0 : Int32))) (h_up (h_up FL 121 35 ((0 : Int64))) 121 36 ((0 : Int64))) FR hok) (fun v34 n34 sl34 SH34 FI34 FL34 FR34 hok34 _ => ?_)
                        show pw _ _ _ _ _ _ _ 153 _ [.long (v34), .ref (base + 121)] _ _
                        refine pw_putrl (aX12_operands 83 rfl) uf_RX12_228 (fun _ _ _ => rfl) (fun t36 => ?_)
                        refine pw_goto (tgt := 427) (aX12_operands 84 rfl) (by decide) ?_
                        exact pw_vret (aX12_operands 225 rfl) hok34
                      · skip
                        refine pw_iloadn (aX12_operands 74 rfl) rfl ?_
                        refine pw_bipush (v := (47 : Int32)) (aX12_operands 75 rfl) rfl ?_
                        refine pw_icne (tgt := 159) (aX12_operands 76 rfl) (by decide) (fun b36 => ?_) (fun b36 => ?_)
                        · skip
                          refine pw_aloadn (aX12_operands 77 rfl) rfl ?_
                          refine pw_aloadn (aX12_operands 78 rfl) rfl ?_
                          refine pw_iconst (v := (2 : Int32)) (aX12_operands 79 rfl) rfl ?_
                          refine pw_iconst (v := (1 : Int32)) (aX12_operands 80 rfl) rfl ?_
                          refine pw_iloadn (aX12_operands 81 rfl) rfl ?_
                          refine pw_callV (Bs := [.int ((2 : Int32)), .int ((1 : Int32)), .int (a2)]) (rest := [.ref (base + 121)]) (aX12_operands 82 rfl) um_RX12_234 ujX12_fixed wc_RX12_234.2.2.2.2 (by decide) (by decide) rfl rfl (fun d => rX12_fixed hkb ((2 : Int32)) ((1 : Int32)) (a2) n sl SH (h_up FI 121 38 ((0 : Int32))) (h_up (h_up FL 121 35 ((0 : Int64))) 121 36 ((0 : Int64))) FR hok) (fun v37 n37 sl37 SH37 FI37 FL37 FR37 hok37 _ => ?_)
                          show pw _ _ _ _ _ _ _ 153 _ [.long (v37), .ref (base + 121)] _ _
                          refine pw_putrl (aX12_operands 83 rfl) uf_RX12_228 (fun _ _ _ => rfl) (fun t39 => ?_)
                          refine pw_goto (tgt := 427) (aX12_operands 84 rfl) (by decide) ?_
                          exact pw_vret (aX12_operands 225 rfl) hok37
                        · skip
                          refine pw_iloadn (aX12_operands 85 rfl) rfl ?_
                          refine pw_bipush (v := (12 : Int32)) (aX12_operands 86 rfl) rfl ?_
                          refine pw_iceq (tgt := 172) (aX12_operands 87 rfl) (by decide) (fun b39 => ?_) (fun b39 => ?_)
                          · skip
                            refine pw_aloadn (aX12_operands 91 rfl) rfl ?_
                            refine pw_aloadn (aX12_operands 92 rfl) rfl ?_
                            refine pw_iconst (v := (4 : Int32)) (aX12_operands 93 rfl) rfl ?_
                            refine pw_iconst (v := (0 : Int32)) (aX12_operands 94 rfl) rfl ?_
                            refine pw_iloadn (aX12_operands 95 rfl) rfl ?_
                            refine pw_callV (Bs := [.int ((4 : Int32)), .int ((0 : Int32)), .int (a2)]) (rest := [.ref (base + 121)]) (aX12_operands 96 rfl) um_RX12_234 ujX12_fixed wc_RX12_234.2.2.2.2 (by decide) (by decide) rfl rfl (fun d => rX12_fixed hkb ((4 : Int32)) ((0 : Int32)) (a2) n sl SH (h_up FI 121 38 ((0 : Int32))) (h_up (h_up FL 121 35 ((0 : Int64))) 121 36 ((0 : Int64))) FR hok) (fun v40 n40 sl40 SH40 FI40 FL40 FR40 hok40 _ => ?_)
                            show pw _ _ _ _ _ _ _ 180 _ [.long (v40), .ref (base + 121)] _ _
                            refine pw_putrl (aX12_operands 97 rfl) uf_RX12_228 (fun _ _ _ => rfl) (fun t42 => ?_)
                            refine pw_goto (tgt := 427) (aX12_operands 98 rfl) (by decide) ?_
                            exact pw_vret (aX12_operands 225 rfl) hok40
                          · skip
                            refine pw_iloadn (aX12_operands 88 rfl) rfl ?_
                            refine pw_sipush (v := (153 : Int32)) (aX12_operands 89 rfl) rfl ?_
                            refine pw_icne (tgt := 186) (aX12_operands 90 rfl) (by decide) (fun b42 => ?_) (fun b42 => ?_)
                            · skip
                              refine pw_aloadn (aX12_operands 91 rfl) rfl ?_
                              refine pw_aloadn (aX12_operands 92 rfl) rfl ?_
                              refine pw_iconst (v := (4 : Int32)) (aX12_operands 93 rfl) rfl ?_
                              refine pw_iconst (v := (0 : Int32)) (aX12_operands 94 rfl) rfl ?_
                              refine pw_iloadn (aX12_operands 95 rfl) rfl ?_
                              refine pw_callV (Bs := [.int ((4 : Int32)), .int ((0 : Int32)), .int (a2)]) (rest := [.ref (base + 121)]) (aX12_operands 96 rfl) um_RX12_234 ujX12_fixed wc_RX12_234.2.2.2.2 (by decide) (by decide) rfl rfl (fun d => rX12_fixed hkb ((4 : Int32)) ((0 : Int32)) (a2) n sl SH (h_up FI 121 38 ((0 : Int32))) (h_up (h_up FL 121 35 ((0 : Int64))) 121 36 ((0 : Int64))) FR hok) (fun v43 n43 sl43 SH43 FI43 FL43 FR43 hok43 _ => ?_)
                              show pw _ _ _ _ _ _ _ 180 _ [.long (v43), .ref (base + 121)] _ _
                              refine pw_putrl (aX12_operands 97 rfl) uf_RX12_228 (fun _ _ _ => rfl) (fun t45 => ?_)
                              refine pw_goto (tgt := 427) (aX12_operands 98 rfl) (by decide) ?_
                              exact pw_vret (aX12_operands 225 rfl) hok43
                            · skip
                              refine pw_iloadn (aX12_operands 99 rfl) rfl ?_
                              refine pw_bipush (v := (13 : Int32)) (aX12_operands 100 rfl) rfl ?_
                              refine pw_icne (tgt := 206) (aX12_operands 101 rfl) (by decide) (fun b45 => ?_) (fun b45 => ?_)
                              · skip
                                refine pw_aloadn (aX12_operands 102 rfl) rfl ?_
                                refine pw_aloadn (aX12_operands 103 rfl) rfl ?_
                                refine pw_iconst (v := (4 : Int32)) (aX12_operands 104 rfl) rfl ?_
                                refine pw_iconst (v := (1 : Int32)) (aX12_operands 105 rfl) rfl ?_
                                refine pw_iloadn (aX12_operands 106 rfl) rfl ?_
                                refine pw_callV (Bs := [.int ((4 : Int32)), .int ((1 : Int32)), .int (a2)]) (rest := [.ref (base + 121)]) (aX12_operands 107 rfl) um_RX12_234 ujX12_fixed wc_RX12_234.2.2.2.2 (by decide) (by decide) rfl rfl (fun d => rX12_fixed hkb ((4 : Int32)) ((1 : Int32)) (a2) n sl SH (h_up FI 121 38 ((0 : Int32))) (h_up (h_up FL 121 35 ((0 : Int64))) 121 36 ((0 : Int64))) FR hok) (fun v46 n46 sl46 SH46 FI46 FL46 FR46 hok46 _ => ?_)
                                show pw _ _ _ _ _ _ _ 200 _ [.long (v46), .ref (base + 121)] _ _
                                refine pw_putrl (aX12_operands 108 rfl) uf_RX12_228 (fun _ _ _ => rfl) (fun t48 => ?_)
                                refine pw_goto (tgt := 427) (aX12_operands 109 rfl) (by decide) ?_
                                exact pw_vret (aX12_operands 225 rfl) hok46
                              · skip
                                refine pw_iloadn (aX12_operands 110 rfl) rfl ?_
                                refine pw_bipush (v := (16 : Int32)) (aX12_operands 111 rfl) rfl ?_
                                refine pw_iceq (tgt := 232) (aX12_operands 112 rfl) (by decide) (fun b48 => ?_) (fun b48 => ?_)
                                · skip
                                  refine pw_aloadn (aX12_operands 122 rfl) rfl ?_
                                  refine pw_aloadn (aX12_operands 123 rfl) rfl ?_
                                  refine pw_iconst (v := (0 : Int32)) (aX12_operands 124 rfl) rfl ?_
                                  refine pw_iloadn (aX12_operands 125 rfl) rfl ?_
                                  refine pw_callV (Bs := [.int ((0 : Int32)), .int (a2)]) (rest := [.ref (base + 121)]) (aX12_operands 126 rfl) um_RX12_238 ujX12_leb wc_RX12_238.2.2.2.2 (by decide) (by decide) rfl rfl (fun d => rX12_leb hkb ((0 : Int32)) (a2) n sl SH (h_up FI 121 38 ((0 : Int32))) (h_up (h_up FL 121 35 ((0 : Int64))) 121 36 ((0 : Int64))) FR hok) (fun v49 n49 sl49 SH49 FI49 FL49 FR49 hok49 _ => ?_)
                                  show pw _ _ _ _ _ _ _ 239 _ [.long (v49), .ref (base + 121)] _ _
                                  refine pw_putrl (aX12_operands 127 rfl) uf_RX12_228 (fun _ _ _ => rfl) (fun t51 => ?_)
                                  refine pw_goto (tgt := 427) (aX12_operands 128 rfl) (by decide) ?_
                                  exact pw_vret (aX12_operands 225 rfl) hok49
                                · skip
                                  refine pw_iloadn (aX12_operands 113 rfl) rfl ?_
                                  refine pw_bipush (v := (35 : Int32)) (aX12_operands 114 rfl) rfl ?_
                                  refine pw_iceq (tgt := 232) (aX12_operands 115 rfl) (by decide) (fun b51 => ?_) (fun b51 => ?_)
                                  · skip
                                    refine pw_aloadn (aX12_operands 122 rfl) rfl ?_
                                    refine pw_aloadn (aX12_operands 123 rfl) rfl ?_
                                    refine pw_iconst (v := (0 : Int32)) (aX12_operands 124 rfl) rfl ?_
                                    refine pw_iloadn (aX12_operands 125 rfl) rfl ?_
                                    refine pw_callV (Bs := [.int ((0 : Int32)), .int (a2)]) (rest := [.ref (base + 121)]) (aX12_operands 126 rfl) um_RX12_238 ujX12_leb wc_RX12_238.2.2.2.2 (by decide) (by decide) rfl rfl (fun d => rX12_leb hkb ((0 : Int32)) (a2) n sl SH (h_up FI 121 38 ((0 : Int32))) (h_up (h_up FL 121 35 ((0 : Int64))) 121 36 ((0 : Int64))) FR hok) (fun v52 n52 sl52 SH52 FI52 FL52 FR52 hok52 _ => ?_)
                                    show pw _ _ _ _ _ _ _ 239 _ [.long (v52), .ref (base + 121)] _ _
                                    refine pw_putrl (aX12_operands 127 rfl) uf_RX12_228 (fun _ _ _ => rfl) (fun t54 => ?_)
                                    refine pw_goto (tgt := 427) (aX12_operands 128 rfl) (by decide) ?_
                                    exact pw_vret (aX12_operands 225 rfl) hok52
                                  · skip
                                    refine pw_iloadn (aX12_operands 116 rfl) rfl ?_
                                    refine pw_sipush (v := (144 : Int32)) (aX12_operands 117 rfl) rfl ?_
                                    refine pw_iceq (tgt := 232) (aX12_operands 118 rfl) (by decide) (fun b54 => ?_) (fun b54 => ?_)
                                    · skip
                                      refine pw_aloadn (aX12_operands 122 rfl) rfl ?_
                                      refine pw_aloadn (aX12_operands 123 rfl) rfl ?_
                                      refine pw_iconst (v := (0 : Int32)) (aX12_operands 124 rfl) rfl ?_
                                      refine pw_iloadn (aX12_operands 125 rfl) rfl ?_
                                      refine pw_callV (Bs := [.int ((0 : Int32)), .int (a2)]) (rest := [.ref (base + 121)]) (aX12_operands 126 rfl) um_RX12_238 ujX12_leb wc_RX12_238.2.2.2.2 (by decide) (by decide) rfl rfl (fun d => rX12_leb hkb ((0 : Int32)) (a2) n sl SH (h_up FI 121 38 ((0 : Int32))) (h_up (h_up FL 121 35 ((0 : Int64))) 121 36 ((0 : Int64))) FR hok) (fun v55 n55 sl55 SH55 FI55 FL55 FR55 hok55 _ => ?_)
                                      show pw _ _ _ _ _ _ _ 239 _ [.long (v55), .ref (base + 121)] _ _
                                      refine pw_putrl (aX12_operands 127 rfl) uf_RX12_228 (fun _ _ _ => rfl) (fun t57 => ?_)
                                      refine pw_goto (tgt := 427) (aX12_operands 128 rfl) (by decide) ?_
                                      exact pw_vret (aX12_operands 225 rfl) hok55
                                    · skip
                                      refine pw_iloadn (aX12_operands 119 rfl) rfl ?_
                                      refine pw_sipush (v := (147 : Int32)) (aX12_operands 120 rfl) rfl ?_
                                      refine pw_icne (tgt := 245) (aX12_operands 121 rfl) (by decide) (fun b57 => ?_) (fun b57 => ?_)
                                      · skip
                                        refine pw_aloadn (aX12_operands 122 rfl) rfl ?_
                                        refine pw_aloadn (aX12_operands 123 rfl) rfl ?_
                                        refine pw_iconst (v := (0 : Int32)) (aX12_operands 124 rfl) rfl ?_
                                        refine pw_iloadn (aX12_operands 125 rfl) rfl ?_
                                        refine pw_callV (Bs := [.int ((0 : Int32)), .int (a2)]) (rest := [.ref (base + 121)]) (aX12_operands 126 rfl) um_RX12_238 ujX12_leb wc_RX12_238.2.2.2.2 (by decide) (by decide) rfl rfl (fun d => rX12_leb hkb ((0 : Int32)) (a2) n sl SH (h_up FI 121 38 ((0 : Int32))) (h_up (h_up FL 121 35 ((0 : Int64))) 121 36 ((0 : Int64))) FR hok) (fun v58 n58 sl58 SH58 FI58 FL58 FR58 hok58 _ => ?_)
                                        show pw _ _ _ _ _ _ _ 239 _ [.long (v58), .ref (base + 121)] _ _
                                        refine pw_putrl (aX12_operands 127 rfl) uf_RX12_228 (fun _ _ _ => rfl) (fun t60 => ?_)
                                        refine pw_goto (tgt := 427) (aX12_operands 128 rfl) (by decide) ?_
                                        exact pw_vret (aX12_operands 225 rfl) hok58
                                      · skip
                                        refine pw_iloadn (aX12_operands 129 rfl) rfl ?_
                                        refine pw_bipush (v := (17 : Int32)) (aX12_operands 130 rfl) rfl ?_
                                        refine pw_iceq (tgt := 271) (aX12_operands 131 rfl) (by decide) (fun b60 => ?_) (fun b60 => ?_)
                                        · skip
                                          refine pw_aloadn (aX12_operands 141 rfl) rfl ?_
                                          refine pw_aloadn (aX12_operands 142 rfl) rfl ?_
                                          refine pw_iconst (v := (1 : Int32)) (aX12_operands 143 rfl) rfl ?_
                                          refine pw_iloadn (aX12_operands 144 rfl) rfl ?_
                                          refine pw_callV (Bs := [.int ((1 : Int32)), .int (a2)]) (rest := [.ref (base + 121)]) (aX12_operands 145 rfl) um_RX12_238 ujX12_leb wc_RX12_238.2.2.2.2 (by decide) (by decide) rfl rfl (fun d => rX12_leb hkb ((1 : Int32)) (a2) n sl SH (h_up FI 121 38 ((0 : Int32))) (h_up (h_up FL 121 35 ((0 : Int64))) 121 36 ((0 : Int64))) FR hok) (fun v61 n61 sl61 SH61 FI61 FL61 FR61 hok61 _ => ?_)
                                          show pw _ _ _ _ _ _ _ 278 _ [.long (v61), .ref (base + 121)] _ _
                                          refine pw_putrl (aX12_operands 146 rfl) uf_RX12_228 (fun _ _ _ => rfl) (fun t63 => ?_)
                                          refine pw_goto (tgt := 427) (aX12_operands 147 rfl) (by decide) ?_
                                          exact pw_vret (aX12_operands 225 rfl) hok61
                                        · skip
                                          refine pw_iloadn (aX12_operands 132 rfl) rfl ?_
                                          refine pw_bipush (v := (112 : Int32)) (aX12_operands 133 rfl) rfl ?_
                                          refine pw_iclt (tgt := 264) (aX12_operands 134 rfl) (by decide) (fun b63 => ?_) (fun b63 => ?_)
                                          · skip
                                            exact pw_Li (L2 := [(0, .ref (base + 121)), (1, .int (a1)), (2, .int (a2))]) [0, 1, 2] (rX12_operands_264 hkb a1 a2  n sl SH (h_up FI 121 38 ((0 : Int32))) (h_up (h_up FL 121 35 ((0 : Int64))) 121 36 ((0 : Int64))) FR hok  ) ⟨rfl, rfl, rfl, trivial⟩
                                          · skip
                                            refine pw_iloadn (aX12_operands 135 rfl) rfl ?_
                                            refine pw_sipush (v := (143 : Int32)) (aX12_operands 136 rfl) rfl ?_
                                            refine pw_icle (tgt := 271) (aX12_operands 137 rfl) (by decide) (fun b64 => ?_) (fun b64 => ?_)
                                            · skip
                                              exact pw_Li (L2 := [(0, .ref (base + 121)), (1, .int (a1)), (2, .int (a2))]) [0, 1, 2] (rX12_operands_264 hkb a1 a2  n sl SH (h_up FI 121 38 ((0 : Int32))) (h_up (h_up FL 121 35 ((0 : Int64))) 121 36 ((0 : Int64))) FR hok  ) ⟨rfl, rfl, rfl, trivial⟩
                                            · skip
                                              refine pw_aloadn (aX12_operands 141 rfl) rfl ?_
                                              refine pw_aloadn (aX12_operands 142 rfl) rfl ?_
                                              refine pw_iconst (v := (1 : Int32)) (aX12_operands 143 rfl) rfl ?_
                                              refine pw_iloadn (aX12_operands 144 rfl) rfl ?_
                                              refine pw_callV (Bs := [.int ((1 : Int32)), .int (a2)]) (rest := [.ref (base + 121)]) (aX12_operands 145 rfl) um_RX12_238 ujX12_leb wc_RX12_238.2.2.2.2 (by decide) (by decide) rfl rfl (fun d => rX12_leb hkb ((1 : Int32)) (a2) n sl SH (h_up FI 121 38 ((0 : Int32))) (h_up (h_up FL 121 35 ((0 : Int64))) 121 36 ((0 : Int64))) FR hok) (fun v65 n65 sl65 SH65 FI65 FL65 FR65 hok65 _ => ?_)
                                              show pw _ _ _ _ _ _ _ 278 _ [.long (v65), .ref (base + 121)] _ _
                                              refine pw_putrl (aX12_operands 146 rfl) uf_RX12_228 (fun _ _ _ => rfl) (fun t67 => ?_)
                                              refine pw_goto (tgt := 427) (aX12_operands 147 rfl) (by decide) ?_
                                              exact pw_vret (aX12_operands 225 rfl) hok65
set_option maxHeartbeats 4000000 in
set_option maxRecDepth 100000 in
theorem rX12_isAbove {sk : xK} {base N d : Nat} (hkb : x_kb sk base) (a1 : Int64) (a2 : Int64) (n sl : Nat) (SH : Nat → Nat × Nat) (FI : Nat → Nat → Int32) (FL : Nat → Nat → Int64) (FR : Nat → Nat → Option Nat) (hok : pk n SH FR)  : pw pj_I sk base N d none 172 0 [(0, .ref (base + 121)), (1, .long (a1)), (3, .long (a2))] [] (n, sl, SH, FI, FL, FR) (P_ret (fX12_isAbove a1 a2 SH FI FL FR) (n, sl, SH, FI, FL, FR)) := by
  unfold fX12_isAbove
  refine pw_lloadn (aX12_isAbove 0 rfl) rfl ?_
  refine pw_lconst (v := (0 : Int64)) (aX12_isAbove 1 rfl) rfl ?_
  refine pw_ite (pw_lclt (tgt := 12) (aX12_isAbove 2 rfl) (aX12_isAbove 3 rfl) (by decide) (fun b0 => ?_) (fun b0 => ?_))
  · skip
    refine pw_iconst (v := (1 : Int32)) (aX12_isAbove 8 rfl) rfl ?_
    refine pw_goto (tgt := 17) (aX12_isAbove 9 rfl) (by decide) ?_
    exact pw_iret (aX12_isAbove 11 rfl) hok
  · skip
    refine pw_lloadn (aX12_isAbove 4 rfl) rfl ?_
    refine pw_lloadn (aX12_isAbove 5 rfl) rfl ?_
    refine pw_ite (pw_lcle (tgt := 16) (aX12_isAbove 6 rfl) (aX12_isAbove 7 rfl) (by decide) (fun b1 => ?_) (fun b1 => ?_))
    · skip
      refine pw_iconst (v := (1 : Int32)) (aX12_isAbove 8 rfl) rfl ?_
      refine pw_goto (tgt := 17) (aX12_isAbove 9 rfl) (by decide) ?_
      exact pw_iret (aX12_isAbove 11 rfl) hok
    · skip
      refine pw_iconst (v := (0 : Int32)) (aX12_isAbove 10 rfl) rfl ?_
      exact pw_iret (aX12_isAbove 11 rfl) hok
set_option maxHeartbeats 4000000 in
set_option maxRecDepth 100000 in
theorem rX12_wants {sk : xK} {base N d : Nat} (hkb : x_kb sk base) (a1 : Int32) (n sl : Nat) (SH : Nat → Nat × Nat) (FI : Nat → Nat → Int32) (FL : Nat → Nat → Int64) (FR : Nat → Nat → Option Nat) (hok : pk n SH FR)  : pw pj_I sk base N d none 173 0 [(0, .ref (base + 121)), (1, .int (a1))] [] (n, sl, SH, FI, FL, FR) (P_ret (fX12_wants a1 SH FI FL FR) (n, sl, SH, FI, FL, FR)) := by
  unfold fX12_wants
  refine pw_iloadn (aX12_wants 0 rfl) rfl ?_
  refine pw_bipush (v := (6 : Int32)) (aX12_wants 1 rfl) rfl ?_
  refine pw_ite (pw_iceq (tgt := 69) (aX12_wants 2 rfl) (by decide) (fun b0 => ?_) (fun b0 => ?_))
  · skip
    refine pw_iconst (v := (1 : Int32)) (aX12_wants 33 rfl) rfl ?_
    exact pw_iret (aX12_wants 34 rfl) hok
  · skip
    refine pw_iloadn (aX12_wants 3 rfl) rfl ?_
    refine pw_bipush (v := (18 : Int32)) (aX12_wants 4 rfl) rfl ?_
    refine pw_ite (pw_iceq (tgt := 69) (aX12_wants 5 rfl) (by decide) (fun b1 => ?_) (fun b1 => ?_))
    · skip
      refine pw_iconst (v := (1 : Int32)) (aX12_wants 33 rfl) rfl ?_
      exact pw_iret (aX12_wants 34 rfl) hok
    · skip
      refine pw_iloadn (aX12_wants 6 rfl) rfl ?_
      refine pw_bipush (v := (19 : Int32)) (aX12_wants 7 rfl) rfl ?_
      refine pw_ite (pw_iceq (tgt := 69) (aX12_wants 8 rfl) (by decide) (fun b2 => ?_) (fun b2 => ?_))
      · skip
        refine pw_iconst (v := (1 : Int32)) (aX12_wants 33 rfl) rfl ?_
        exact pw_iret (aX12_wants 34 rfl) hok
      · skip
        refine pw_iloadn (aX12_wants 9 rfl) rfl ?_
        refine pw_bipush (v := (25 : Int32)) (aX12_wants 10 rfl) rfl ?_
        refine pw_ite (pw_iceq (tgt := 69) (aX12_wants 11 rfl) (by decide) (fun b3 => ?_) (fun b3 => ?_))
        · skip
          refine pw_iconst (v := (1 : Int32)) (aX12_wants 33 rfl) rfl ?_
          exact pw_iret (aX12_wants 34 rfl) hok
        · skip
          refine pw_iloadn (aX12_wants 12 rfl) rfl ?_
          refine pw_bipush (v := (31 : Int32)) (aX12_wants 13 rfl) rfl ?_
          refine pw_ite (pw_iceq (tgt := 69) (aX12_wants 14 rfl) (by decide) (fun b4 => ?_) (fun b4 => ?_))
          · skip
            refine pw_iconst (v := (1 : Int32)) (aX12_wants 33 rfl) rfl ?_
            exact pw_iret (aX12_wants 34 rfl) hok
          · skip
            refine pw_iloadn (aX12_wants 15 rfl) rfl ?_
            refine pw_bipush (v := (32 : Int32)) (aX12_wants 16 rfl) rfl ?_
            refine pw_ite (pw_iceq (tgt := 69) (aX12_wants 17 rfl) (by decide) (fun b5 => ?_) (fun b5 => ?_))
            · skip
              refine pw_iconst (v := (1 : Int32)) (aX12_wants 33 rfl) rfl ?_
              exact pw_iret (aX12_wants 34 rfl) hok
            · skip
              refine pw_iloadn (aX12_wants 18 rfl) rfl ?_
              refine pw_bipush (v := (35 : Int32)) (aX12_wants 19 rfl) rfl ?_
              refine pw_ite (pw_iceq (tgt := 69) (aX12_wants 20 rfl) (by decide) (fun b6 => ?_) (fun b6 => ?_))
              · skip
                refine pw_iconst (v := (1 : Int32)) (aX12_wants 33 rfl) rfl ?_
                exact pw_iret (aX12_wants 34 rfl) hok
              · skip
                refine pw_iloadn (aX12_wants 21 rfl) rfl ?_
                refine pw_bipush (v := (40 : Int32)) (aX12_wants 22 rfl) rfl ?_
                refine pw_ite (pw_iceq (tgt := 69) (aX12_wants 23 rfl) (by decide) (fun b7 => ?_) (fun b7 => ?_))
                · skip
                  refine pw_iconst (v := (1 : Int32)) (aX12_wants 33 rfl) rfl ?_
                  exact pw_iret (aX12_wants 34 rfl) hok
                · skip
                  refine pw_iloadn (aX12_wants 24 rfl) rfl ?_
                  refine pw_sipush (v := (148 : Int32)) (aX12_wants 25 rfl) rfl ?_
                  refine pw_ite (pw_iceq (tgt := 69) (aX12_wants 26 rfl) (by decide) (fun b8 => ?_) (fun b8 => ?_))
                  · skip
                    refine pw_iconst (v := (1 : Int32)) (aX12_wants 33 rfl) rfl ?_
                    exact pw_iret (aX12_wants 34 rfl) hok
                  · skip
                    refine pw_iloadn (aX12_wants 27 rfl) rfl ?_
                    refine pw_sipush (v := (155 : Int32)) (aX12_wants 28 rfl) rfl ?_
                    refine pw_ite (pw_iceq (tgt := 69) (aX12_wants 29 rfl) (by decide) (fun b9 => ?_) (fun b9 => ?_))
                    · skip
                      refine pw_iconst (v := (1 : Int32)) (aX12_wants 33 rfl) rfl ?_
                      exact pw_iret (aX12_wants 34 rfl) hok
                    · skip
                      refine pw_iloadn (aX12_wants 30 rfl) rfl ?_
                      refine pw_sipush (v := (159 : Int32)) (aX12_wants 31 rfl) rfl ?_
                      refine pw_ite (pw_icne (tgt := 71) (aX12_wants 32 rfl) (by decide) (fun b10 => ?_) (fun b10 => ?_))
                      · skip
                        refine pw_iconst (v := (1 : Int32)) (aX12_wants 33 rfl) rfl ?_
                        exact pw_iret (aX12_wants 34 rfl) hok
                      · skip
                        refine pw_iloadn (aX12_wants 35 rfl) rfl ?_
                        refine pw_bipush (v := (20 : Int32)) (aX12_wants 36 rfl) rfl ?_
                        refine pw_ite (pw_iceq (tgt := 83) (aX12_wants 37 rfl) (by decide) (fun b11 => ?_) (fun b11 => ?_))
                        · skip
                          refine pw_iconst (v := (2 : Int32)) (aX12_wants 41 rfl) rfl ?_
                          exact pw_iret (aX12_wants 42 rfl) hok
                        · skip
                          refine pw_iloadn (aX12_wants 38 rfl) rfl ?_
                          refine pw_bipush (v := (22 : Int32)) (aX12_wants 39 rfl) rfl ?_
                          refine pw_ite (pw_icne (tgt := 85) (aX12_wants 40 rfl) (by decide) (fun b12 => ?_) (fun b12 => ?_))
                          · skip
                            refine pw_iconst (v := (2 : Int32)) (aX12_wants 41 rfl) rfl ?_
                            exact pw_iret (aX12_wants 42 rfl) hok
                          · skip
                            refine pw_iloadn (aX12_wants 43 rfl) rfl ?_
                            refine pw_bipush (v := (21 : Int32)) (aX12_wants 44 rfl) rfl ?_
                            refine pw_ite (pw_icne (tgt := 99) (aX12_wants 45 rfl) (by decide) (fun b13 => ?_) (fun b13 => ?_))
                            · skip
                              refine pw_aloadn (aX12_wants 46 rfl) rfl ?_
                              refine pw_getr (v := .long (FL 121 35)) (aX12_wants 47 rfl) uf_RX12_228 un_RX12_228 rfl ?_
                              refine pw_l2i (aX12_wants 48 rfl) ?_
                              refine pw_iconst (v := (1 : Int32)) (aX12_wants 49 rfl) rfl ?_
                              refine pw_iadd (aX12_wants 50 rfl) ?_
                              exact pw_iret (aX12_wants 51 rfl) hok
                            · skip
                              refine pw_iloadn (aX12_wants 52 rfl) rfl ?_
                              refine pw_bipush (v := (23 : Int32)) (aX12_wants 53 rfl) rfl ?_
                              refine pw_ite (pw_icne (tgt := 107) (aX12_wants 54 rfl) (by decide) (fun b14 => ?_) (fun b14 => ?_))
                              · skip
                                refine pw_iconst (v := (3 : Int32)) (aX12_wants 55 rfl) rfl ?_
                                exact pw_iret (aX12_wants 56 rfl) hok
                              · skip
                                refine pw_iloadn (aX12_wants 57 rfl) rfl ?_
                                refine pw_bipush (v := (26 : Int32)) (aX12_wants 58 rfl) rfl ?_
                                refine pw_ite (pw_iclt (tgt := 121) (aX12_wants 59 rfl) (by decide) (fun b15 => ?_) (fun b15 => ?_))
                                · skip
                                  refine pw_iconst (v := (0 : Int32)) (aX12_wants 65 rfl) rfl ?_
                                  exact pw_iret (aX12_wants 66 rfl) hok
                                · skip
                                  refine pw_iloadn (aX12_wants 60 rfl) rfl ?_
                                  refine pw_bipush (v := (46 : Int32)) (aX12_wants 61 rfl) rfl ?_
                                  refine pw_ite (pw_icgt (tgt := 121) (aX12_wants 62 rfl) (by decide) (fun b16 => ?_) (fun b16 => ?_))
                                  · skip
                                    refine pw_iconst (v := (0 : Int32)) (aX12_wants 65 rfl) rfl ?_
                                    exact pw_iret (aX12_wants 66 rfl) hok
                                  · skip
                                    refine pw_iconst (v := (2 : Int32)) (aX12_wants 63 rfl) rfl ?_
                                    exact pw_iret (aX12_wants 64 rfl) hok
set_option maxHeartbeats 4000000 in
set_option maxRecDepth 100000 in
theorem rX12_pushes {sk : xK} {base N d : Nat} (hkb : x_kb sk base) (a1 : Int32) (n sl : Nat) (SH : Nat → Nat × Nat) (FI : Nat → Nat → Int32) (FL : Nat → Nat → Int64) (FR : Nat → Nat → Option Nat) (hok : pk n SH FR)  : pw pj_I sk base N d none 174 0 [(0, .ref (base + 121)), (1, .int (a1))] [] (n, sl, SH, FI, FL, FR) (P_ret (fX12_pushes a1 SH FI FL FR) (n, sl, SH, FI, FL, FR)) := by
  unfold fX12_pushes
  refine pw_iloadn (aX12_pushes 0 rfl) rfl ?_
  refine pw_iconst (v := (3 : Int32)) (aX12_pushes 1 rfl) rfl ?_
  refine pw_ite (pw_iceq (tgt := 29) (aX12_pushes 2 rfl) (by decide) (fun b0 => ?_) (fun b0 => ?_))
  · skip
    refine pw_iconst (v := (1 : Int32)) (aX12_pushes 15 rfl) rfl ?_
    exact pw_iret (aX12_pushes 16 rfl) hok
  · skip
    refine pw_iloadn (aX12_pushes 3 rfl) rfl ?_
    refine pw_bipush (v := (8 : Int32)) (aX12_pushes 4 rfl) rfl ?_
    refine pw_ite (pw_iclt (tgt := 17) (aX12_pushes 5 rfl) (by decide) (fun b1 => ?_) (fun b1 => ?_))
    · skip
      refine pw_iloadn (aX12_pushes 9 rfl) rfl ?_
      refine pw_bipush (v := (20 : Int32)) (aX12_pushes 10 rfl) rfl ?_
      refine pw_ite (pw_iceq (tgt := 29) (aX12_pushes 11 rfl) (by decide) (fun b2 => ?_) (fun b2 => ?_))
      · skip
        refine pw_iconst (v := (1 : Int32)) (aX12_pushes 15 rfl) rfl ?_
        exact pw_iret (aX12_pushes 16 rfl) hok
      · skip
        refine pw_iloadn (aX12_pushes 12 rfl) rfl ?_
        refine pw_bipush (v := (21 : Int32)) (aX12_pushes 13 rfl) rfl ?_
        refine pw_ite (pw_icne (tgt := 31) (aX12_pushes 14 rfl) (by decide) (fun b3 => ?_) (fun b3 => ?_))
        · skip
          refine pw_iconst (v := (1 : Int32)) (aX12_pushes 15 rfl) rfl ?_
          exact pw_iret (aX12_pushes 16 rfl) hok
        · skip
          refine pw_iloadn (aX12_pushes 17 rfl) rfl ?_
          refine pw_bipush (v := (48 : Int32)) (aX12_pushes 18 rfl) rfl ?_
          refine pw_ite (pw_iclt (tgt := 43) (aX12_pushes 19 rfl) (by decide) (fun b4 => ?_) (fun b4 => ?_))
          · skip
            refine pw_iloadn (aX12_pushes 23 rfl) rfl ?_
            refine pw_bipush (v := (112 : Int32)) (aX12_pushes 24 rfl) rfl ?_
            refine pw_ite (pw_iclt (tgt := 58) (aX12_pushes 25 rfl) (by decide) (fun b5 => ?_) (fun b5 => ?_))
            · skip
              refine pw_iloadn (aX12_pushes 31 rfl) rfl ?_
              refine pw_sipush (v := (146 : Int32)) (aX12_pushes 32 rfl) rfl ?_
              refine pw_ite (pw_iceq (tgt := 79) (aX12_pushes 33 rfl) (by decide) (fun b6 => ?_) (fun b6 => ?_))
              · skip
                refine pw_iconst (v := (1 : Int32)) (aX12_pushes 40 rfl) rfl ?_
                refine pw_goto (tgt := 84) (aX12_pushes 41 rfl) (by decide) ?_
                exact pw_iret (aX12_pushes 43 rfl) hok
              · skip
                refine pw_iloadn (aX12_pushes 34 rfl) rfl ?_
                refine pw_sipush (v := (151 : Int32)) (aX12_pushes 35 rfl) rfl ?_
                refine pw_ite (pw_iceq (tgt := 79) (aX12_pushes 36 rfl) (by decide) (fun b7 => ?_) (fun b7 => ?_))
                · skip
                  refine pw_iconst (v := (1 : Int32)) (aX12_pushes 40 rfl) rfl ?_
                  refine pw_goto (tgt := 84) (aX12_pushes 41 rfl) (by decide) ?_
                  exact pw_iret (aX12_pushes 43 rfl) hok
                · skip
                  refine pw_iloadn (aX12_pushes 37 rfl) rfl ?_
                  refine pw_sipush (v := (156 : Int32)) (aX12_pushes 38 rfl) rfl ?_
                  refine pw_ite (pw_icne (tgt := 83) (aX12_pushes 39 rfl) (by decide) (fun b8 => ?_) (fun b8 => ?_))
                  · skip
                    refine pw_iconst (v := (1 : Int32)) (aX12_pushes 40 rfl) rfl ?_
                    refine pw_goto (tgt := 84) (aX12_pushes 41 rfl) (by decide) ?_
                    exact pw_iret (aX12_pushes 43 rfl) hok
                  · skip
                    refine pw_iconst (v := (0 : Int32)) (aX12_pushes 42 rfl) rfl ?_
                    exact pw_iret (aX12_pushes 43 rfl) hok
            · skip
              refine pw_iloadn (aX12_pushes 26 rfl) rfl ?_
              refine pw_sipush (v := (143 : Int32)) (aX12_pushes 27 rfl) rfl ?_
              refine pw_ite (pw_icgt (tgt := 58) (aX12_pushes 28 rfl) (by decide) (fun b9 => ?_) (fun b9 => ?_))
              · skip
                refine pw_iloadn (aX12_pushes 31 rfl) rfl ?_
                refine pw_sipush (v := (146 : Int32)) (aX12_pushes 32 rfl) rfl ?_
                refine pw_ite (pw_iceq (tgt := 79) (aX12_pushes 33 rfl) (by decide) (fun b10 => ?_) (fun b10 => ?_))
                · skip
                  refine pw_iconst (v := (1 : Int32)) (aX12_pushes 40 rfl) rfl ?_
                  refine pw_goto (tgt := 84) (aX12_pushes 41 rfl) (by decide) ?_
                  exact pw_iret (aX12_pushes 43 rfl) hok
                · skip
                  refine pw_iloadn (aX12_pushes 34 rfl) rfl ?_
                  refine pw_sipush (v := (151 : Int32)) (aX12_pushes 35 rfl) rfl ?_
                  refine pw_ite (pw_iceq (tgt := 79) (aX12_pushes 36 rfl) (by decide) (fun b11 => ?_) (fun b11 => ?_))
                  · skip
                    refine pw_iconst (v := (1 : Int32)) (aX12_pushes 40 rfl) rfl ?_
                    refine pw_goto (tgt := 84) (aX12_pushes 41 rfl) (by decide) ?_
                    exact pw_iret (aX12_pushes 43 rfl) hok
                  · skip
                    refine pw_iloadn (aX12_pushes 37 rfl) rfl ?_
                    refine pw_sipush (v := (156 : Int32)) (aX12_pushes 38 rfl) rfl ?_
                    refine pw_ite (pw_icne (tgt := 83) (aX12_pushes 39 rfl) (by decide) (fun b12 => ?_) (fun b12 => ?_))
                    · skip
                      refine pw_iconst (v := (1 : Int32)) (aX12_pushes 40 rfl) rfl ?_
                      refine pw_goto (tgt := 84) (aX12_pushes 41 rfl) (by decide) ?_
                      exact pw_iret (aX12_pushes 43 rfl) hok
                    · skip
                      refine pw_iconst (v := (0 : Int32)) (aX12_pushes 42 rfl) rfl ?_
                      exact pw_iret (aX12_pushes 43 rfl) hok
              · skip
                refine pw_iconst (v := (1 : Int32)) (aX12_pushes 29 rfl) rfl ?_
                exact pw_iret (aX12_pushes 30 rfl) hok
          · skip
            refine pw_iloadn (aX12_pushes 20 rfl) rfl ?_
            refine pw_bipush (v := (79 : Int32)) (aX12_pushes 21 rfl) rfl ?_
            refine pw_ite (pw_icle (tgt := 56) (aX12_pushes 22 rfl) (by decide) (fun b13 => ?_) (fun b13 => ?_))
            · skip
              refine pw_iloadn (aX12_pushes 23 rfl) rfl ?_
              refine pw_bipush (v := (112 : Int32)) (aX12_pushes 24 rfl) rfl ?_
              refine pw_ite (pw_iclt (tgt := 58) (aX12_pushes 25 rfl) (by decide) (fun b14 => ?_) (fun b14 => ?_))
              · skip
                refine pw_iloadn (aX12_pushes 31 rfl) rfl ?_
                refine pw_sipush (v := (146 : Int32)) (aX12_pushes 32 rfl) rfl ?_
                refine pw_ite (pw_iceq (tgt := 79) (aX12_pushes 33 rfl) (by decide) (fun b15 => ?_) (fun b15 => ?_))
                · skip
                  refine pw_iconst (v := (1 : Int32)) (aX12_pushes 40 rfl) rfl ?_
                  refine pw_goto (tgt := 84) (aX12_pushes 41 rfl) (by decide) ?_
                  exact pw_iret (aX12_pushes 43 rfl) hok
                · skip
                  refine pw_iloadn (aX12_pushes 34 rfl) rfl ?_
                  refine pw_sipush (v := (151 : Int32)) (aX12_pushes 35 rfl) rfl ?_
                  refine pw_ite (pw_iceq (tgt := 79) (aX12_pushes 36 rfl) (by decide) (fun b16 => ?_) (fun b16 => ?_))
                  · skip
                    refine pw_iconst (v := (1 : Int32)) (aX12_pushes 40 rfl) rfl ?_
                    refine pw_goto (tgt := 84) (aX12_pushes 41 rfl) (by decide) ?_
                    exact pw_iret (aX12_pushes 43 rfl) hok
                  · skip
                    refine pw_iloadn (aX12_pushes 37 rfl) rfl ?_
                    refine pw_sipush (v := (156 : Int32)) (aX12_pushes 38 rfl) rfl ?_
                    refine pw_ite (pw_icne (tgt := 83) (aX12_pushes 39 rfl) (by decide) (fun b17 => ?_) (fun b17 => ?_))
                    · skip
                      refine pw_iconst (v := (1 : Int32)) (aX12_pushes 40 rfl) rfl ?_
                      refine pw_goto (tgt := 84) (aX12_pushes 41 rfl) (by decide) ?_
                      exact pw_iret (aX12_pushes 43 rfl) hok
                    · skip
                      refine pw_iconst (v := (0 : Int32)) (aX12_pushes 42 rfl) rfl ?_
                      exact pw_iret (aX12_pushes 43 rfl) hok
              · skip
                refine pw_iloadn (aX12_pushes 26 rfl) rfl ?_
                refine pw_sipush (v := (143 : Int32)) (aX12_pushes 27 rfl) rfl ?_
                refine pw_ite (pw_icgt (tgt := 58) (aX12_pushes 28 rfl) (by decide) (fun b18 => ?_) (fun b18 => ?_))
                · skip
                  refine pw_iloadn (aX12_pushes 31 rfl) rfl ?_
                  refine pw_sipush (v := (146 : Int32)) (aX12_pushes 32 rfl) rfl ?_
                  refine pw_ite (pw_iceq (tgt := 79) (aX12_pushes 33 rfl) (by decide) (fun b19 => ?_) (fun b19 => ?_))
                  · skip
                    refine pw_iconst (v := (1 : Int32)) (aX12_pushes 40 rfl) rfl ?_
                    refine pw_goto (tgt := 84) (aX12_pushes 41 rfl) (by decide) ?_
                    exact pw_iret (aX12_pushes 43 rfl) hok
                  · skip
                    refine pw_iloadn (aX12_pushes 34 rfl) rfl ?_
                    refine pw_sipush (v := (151 : Int32)) (aX12_pushes 35 rfl) rfl ?_
                    refine pw_ite (pw_iceq (tgt := 79) (aX12_pushes 36 rfl) (by decide) (fun b20 => ?_) (fun b20 => ?_))
                    · skip
                      refine pw_iconst (v := (1 : Int32)) (aX12_pushes 40 rfl) rfl ?_
                      refine pw_goto (tgt := 84) (aX12_pushes 41 rfl) (by decide) ?_
                      exact pw_iret (aX12_pushes 43 rfl) hok
                    · skip
                      refine pw_iloadn (aX12_pushes 37 rfl) rfl ?_
                      refine pw_sipush (v := (156 : Int32)) (aX12_pushes 38 rfl) rfl ?_
                      refine pw_ite (pw_icne (tgt := 83) (aX12_pushes 39 rfl) (by decide) (fun b21 => ?_) (fun b21 => ?_))
                      · skip
                        refine pw_iconst (v := (1 : Int32)) (aX12_pushes 40 rfl) rfl ?_
                        refine pw_goto (tgt := 84) (aX12_pushes 41 rfl) (by decide) ?_
                        exact pw_iret (aX12_pushes 43 rfl) hok
                      · skip
                        refine pw_iconst (v := (0 : Int32)) (aX12_pushes 42 rfl) rfl ?_
                        exact pw_iret (aX12_pushes 43 rfl) hok
                · skip
                  refine pw_iconst (v := (1 : Int32)) (aX12_pushes 29 rfl) rfl ?_
                  exact pw_iret (aX12_pushes 30 rfl) hok
            · skip
              refine pw_iconst (v := (1 : Int32)) (aX12_pushes 29 rfl) rfl ?_
              exact pw_iret (aX12_pushes 30 rfl) hok
    · skip
      refine pw_iloadn (aX12_pushes 6 rfl) rfl ?_
      refine pw_bipush (v := (18 : Int32)) (aX12_pushes 7 rfl) rfl ?_
      refine pw_ite (pw_icle (tgt := 29) (aX12_pushes 8 rfl) (by decide) (fun b22 => ?_) (fun b22 => ?_))
      · skip
        refine pw_iloadn (aX12_pushes 9 rfl) rfl ?_
        refine pw_bipush (v := (20 : Int32)) (aX12_pushes 10 rfl) rfl ?_
        refine pw_ite (pw_iceq (tgt := 29) (aX12_pushes 11 rfl) (by decide) (fun b23 => ?_) (fun b23 => ?_))
        · skip
          refine pw_iconst (v := (1 : Int32)) (aX12_pushes 15 rfl) rfl ?_
          exact pw_iret (aX12_pushes 16 rfl) hok
        · skip
          refine pw_iloadn (aX12_pushes 12 rfl) rfl ?_
          refine pw_bipush (v := (21 : Int32)) (aX12_pushes 13 rfl) rfl ?_
          refine pw_ite (pw_icne (tgt := 31) (aX12_pushes 14 rfl) (by decide) (fun b24 => ?_) (fun b24 => ?_))
          · skip
            refine pw_iconst (v := (1 : Int32)) (aX12_pushes 15 rfl) rfl ?_
            exact pw_iret (aX12_pushes 16 rfl) hok
          · skip
            refine pw_iloadn (aX12_pushes 17 rfl) rfl ?_
            refine pw_bipush (v := (48 : Int32)) (aX12_pushes 18 rfl) rfl ?_
            refine pw_ite (pw_iclt (tgt := 43) (aX12_pushes 19 rfl) (by decide) (fun b25 => ?_) (fun b25 => ?_))
            · skip
              refine pw_iloadn (aX12_pushes 23 rfl) rfl ?_
              refine pw_bipush (v := (112 : Int32)) (aX12_pushes 24 rfl) rfl ?_
              refine pw_ite (pw_iclt (tgt := 58) (aX12_pushes 25 rfl) (by decide) (fun b26 => ?_) (fun b26 => ?_))
              · skip
                refine pw_iloadn (aX12_pushes 31 rfl) rfl ?_
                refine pw_sipush (v := (146 : Int32)) (aX12_pushes 32 rfl) rfl ?_
                refine pw_ite (pw_iceq (tgt := 79) (aX12_pushes 33 rfl) (by decide) (fun b27 => ?_) (fun b27 => ?_))
                · skip
                  refine pw_iconst (v := (1 : Int32)) (aX12_pushes 40 rfl) rfl ?_
                  refine pw_goto (tgt := 84) (aX12_pushes 41 rfl) (by decide) ?_
                  exact pw_iret (aX12_pushes 43 rfl) hok
                · skip
                  refine pw_iloadn (aX12_pushes 34 rfl) rfl ?_
                  refine pw_sipush (v := (151 : Int32)) (aX12_pushes 35 rfl) rfl ?_
                  refine pw_ite (pw_iceq (tgt := 79) (aX12_pushes 36 rfl) (by decide) (fun b28 => ?_) (fun b28 => ?_))
                  · skip
                    refine pw_iconst (v := (1 : Int32)) (aX12_pushes 40 rfl) rfl ?_
                    refine pw_goto (tgt := 84) (aX12_pushes 41 rfl) (by decide) ?_
                    exact pw_iret (aX12_pushes 43 rfl) hok
                  · skip
                    refine pw_iloadn (aX12_pushes 37 rfl) rfl ?_
                    refine pw_sipush (v := (156 : Int32)) (aX12_pushes 38 rfl) rfl ?_
                    refine pw_ite (pw_icne (tgt := 83) (aX12_pushes 39 rfl) (by decide) (fun b29 => ?_) (fun b29 => ?_))
                    · skip
                      refine pw_iconst (v := (1 : Int32)) (aX12_pushes 40 rfl) rfl ?_
                      refine pw_goto (tgt := 84) (aX12_pushes 41 rfl) (by decide) ?_
                      exact pw_iret (aX12_pushes 43 rfl) hok
                    · skip
                      refine pw_iconst (v := (0 : Int32)) (aX12_pushes 42 rfl) rfl ?_
                      exact pw_iret (aX12_pushes 43 rfl) hok
              · skip
                refine pw_iloadn (aX12_pushes 26 rfl) rfl ?_
                refine pw_sipush (v := (143 : Int32)) (aX12_pushes 27 rfl) rfl ?_
                refine pw_ite (pw_icgt (tgt := 58) (aX12_pushes 28 rfl) (by decide) (fun b30 => ?_) (fun b30 => ?_))
                · skip
                  refine pw_iloadn (aX12_pushes 31 rfl) rfl ?_
                  refine pw_sipush (v := (146 : Int32)) (aX12_pushes 32 rfl) rfl ?_
                  refine pw_ite (pw_iceq (tgt := 79) (aX12_pushes 33 rfl) (by decide) (fun b31 => ?_) (fun b31 => ?_))
                  · skip
                    refine pw_iconst (v := (1 : Int32)) (aX12_pushes 40 rfl) rfl ?_
                    refine pw_goto (tgt := 84) (aX12_pushes 41 rfl) (by decide) ?_
                    exact pw_iret (aX12_pushes 43 rfl) hok
                  · skip
                    refine pw_iloadn (aX12_pushes 34 rfl) rfl ?_
                    refine pw_sipush (v := (151 : Int32)) (aX12_pushes 35 rfl) rfl ?_
                    refine pw_ite (pw_iceq (tgt := 79) (aX12_pushes 36 rfl) (by decide) (fun b32 => ?_) (fun b32 => ?_))
                    · skip
                      refine pw_iconst (v := (1 : Int32)) (aX12_pushes 40 rfl) rfl ?_
                      refine pw_goto (tgt := 84) (aX12_pushes 41 rfl) (by decide) ?_
                      exact pw_iret (aX12_pushes 43 rfl) hok
                    · skip
                      refine pw_iloadn (aX12_pushes 37 rfl) rfl ?_
                      refine pw_sipush (v := (156 : Int32)) (aX12_pushes 38 rfl) rfl ?_
                      refine pw_ite (pw_icne (tgt := 83) (aX12_pushes 39 rfl) (by decide) (fun b33 => ?_) (fun b33 => ?_))
                      · skip
                        refine pw_iconst (v := (1 : Int32)) (aX12_pushes 40 rfl) rfl ?_
                        refine pw_goto (tgt := 84) (aX12_pushes 41 rfl) (by decide) ?_
                        exact pw_iret (aX12_pushes 43 rfl) hok
                      · skip
                        refine pw_iconst (v := (0 : Int32)) (aX12_pushes 42 rfl) rfl ?_
                        exact pw_iret (aX12_pushes 43 rfl) hok
                · skip
                  refine pw_iconst (v := (1 : Int32)) (aX12_pushes 29 rfl) rfl ?_
                  exact pw_iret (aX12_pushes 30 rfl) hok
            · skip
              refine pw_iloadn (aX12_pushes 20 rfl) rfl ?_
              refine pw_bipush (v := (79 : Int32)) (aX12_pushes 21 rfl) rfl ?_
              refine pw_ite (pw_icle (tgt := 56) (aX12_pushes 22 rfl) (by decide) (fun b34 => ?_) (fun b34 => ?_))
              · skip
                refine pw_iloadn (aX12_pushes 23 rfl) rfl ?_
                refine pw_bipush (v := (112 : Int32)) (aX12_pushes 24 rfl) rfl ?_
                refine pw_ite (pw_iclt (tgt := 58) (aX12_pushes 25 rfl) (by decide) (fun b35 => ?_) (fun b35 => ?_))
                · skip
                  refine pw_iloadn (aX12_pushes 31 rfl) rfl ?_
                  refine pw_sipush (v := (146 : Int32)) (aX12_pushes 32 rfl) rfl ?_
                  refine pw_ite (pw_iceq (tgt := 79) (aX12_pushes 33 rfl) (by decide) (fun b36 => ?_) (fun b36 => ?_))
                  · skip
                    refine pw_iconst (v := (1 : Int32)) (aX12_pushes 40 rfl) rfl ?_
                    refine pw_goto (tgt := 84) (aX12_pushes 41 rfl) (by decide) ?_
                    exact pw_iret (aX12_pushes 43 rfl) hok
                  · skip
                    refine pw_iloadn (aX12_pushes 34 rfl) rfl ?_
                    refine pw_sipush (v := (151 : Int32)) (aX12_pushes 35 rfl) rfl ?_
                    refine pw_ite (pw_iceq (tgt := 79) (aX12_pushes 36 rfl) (by decide) (fun b37 => ?_) (fun b37 => ?_))
                    · skip
                      refine pw_iconst (v := (1 : Int32)) (aX12_pushes 40 rfl) rfl ?_
                      refine pw_goto (tgt := 84) (aX12_pushes 41 rfl) (by decide) ?_
                      exact pw_iret (aX12_pushes 43 rfl) hok
                    · skip
                      refine pw_iloadn (aX12_pushes 37 rfl) rfl ?_
                      refine pw_sipush (v := (156 : Int32)) (aX12_pushes 38 rfl) rfl ?_
                      refine pw_ite (pw_icne (tgt := 83) (aX12_pushes 39 rfl) (by decide) (fun b38 => ?_) (fun b38 => ?_))
                      · skip
                        refine pw_iconst (v := (1 : Int32)) (aX12_pushes 40 rfl) rfl ?_
                        refine pw_goto (tgt := 84) (aX12_pushes 41 rfl) (by decide) ?_
                        exact pw_iret (aX12_pushes 43 rfl) hok
                      · skip
                        refine pw_iconst (v := (0 : Int32)) (aX12_pushes 42 rfl) rfl ?_
                        exact pw_iret (aX12_pushes 43 rfl) hok
                · skip
                  refine pw_iloadn (aX12_pushes 26 rfl) rfl ?_
                  refine pw_sipush (v := (143 : Int32)) (aX12_pushes 27 rfl) rfl ?_
                  refine pw_ite (pw_icgt (tgt := 58) (aX12_pushes 28 rfl) (by decide) (fun b39 => ?_) (fun b39 => ?_))
                  · skip
                    refine pw_iloadn (aX12_pushes 31 rfl) rfl ?_
                    refine pw_sipush (v := (146 : Int32)) (aX12_pushes 32 rfl) rfl ?_
                    refine pw_ite (pw_iceq (tgt := 79) (aX12_pushes 33 rfl) (by decide) (fun b40 => ?_) (fun b40 => ?_))
                    · skip
                      refine pw_iconst (v := (1 : Int32)) (aX12_pushes 40 rfl) rfl ?_
                      refine pw_goto (tgt := 84) (aX12_pushes 41 rfl) (by decide) ?_
                      exact pw_iret (aX12_pushes 43 rfl) hok
                    · skip
                      refine pw_iloadn (aX12_pushes 34 rfl) rfl ?_
                      refine pw_sipush (v := (151 : Int32)) (aX12_pushes 35 rfl) rfl ?_
                      refine pw_ite (pw_iceq (tgt := 79) (aX12_pushes 36 rfl) (by decide) (fun b41 => ?_) (fun b41 => ?_))
                      · skip
                        refine pw_iconst (v := (1 : Int32)) (aX12_pushes 40 rfl) rfl ?_
                        refine pw_goto (tgt := 84) (aX12_pushes 41 rfl) (by decide) ?_
                        exact pw_iret (aX12_pushes 43 rfl) hok
                      · skip
                        refine pw_iloadn (aX12_pushes 37 rfl) rfl ?_
                        refine pw_sipush (v := (156 : Int32)) (aX12_pushes 38 rfl) rfl ?_
                        refine pw_ite (pw_icne (tgt := 83) (aX12_pushes 39 rfl) (by decide) (fun b42 => ?_) (fun b42 => ?_))
                        · skip
                          refine pw_iconst (v := (1 : Int32)) (aX12_pushes 40 rfl) rfl ?_
                          refine pw_goto (tgt := 84) (aX12_pushes 41 rfl) (by decide) ?_
                          exact pw_iret (aX12_pushes 43 rfl) hok
                        · skip
                          refine pw_iconst (v := (0 : Int32)) (aX12_pushes 42 rfl) rfl ?_
                          exact pw_iret (aX12_pushes 43 rfl) hok
                  · skip
                    refine pw_iconst (v := (1 : Int32)) (aX12_pushes 29 rfl) rfl ?_
                    exact pw_iret (aX12_pushes 30 rfl) hok
              · skip
                refine pw_iconst (v := (1 : Int32)) (aX12_pushes 29 rfl) rfl ?_
                exact pw_iret (aX12_pushes 30 rfl) hok
      · skip
        refine pw_iconst (v := (1 : Int32)) (aX12_pushes 15 rfl) rfl ?_
        exact pw_iret (aX12_pushes 16 rfl) hok
set_option maxHeartbeats 4000000 in
set_option maxRecDepth 100000 in
theorem rX12_isBelow {sk : xK} {base N d : Nat} (hkb : x_kb sk base) (a1 : Int64) (a2 : Int64) (n sl : Nat) (SH : Nat → Nat × Nat) (FI : Nat → Nat → Int32) (FL : Nat → Nat → Int64) (FR : Nat → Nat → Option Nat) (hok : pk n SH FR)  : pw pj_I sk base N d none 194 0 [(0, .ref (base + 121)), (1, .long (a1)), (3, .long (a2))] [] (n, sl, SH, FI, FL, FR) (P_ret (fX12_isBelow a1 a2 SH FI FL FR) (n, sl, SH, FI, FL, FR)) := by
  unfold fX12_isBelow
  refine pw_lloadn (aX12_isBelow 0 rfl) rfl ?_
  refine pw_ldc2 (v := (-9223372036854775808 : Int64)) (aX12_isBelow 1 rfl) uk_RX12_392 ?_
  refine pw_ladd (aX12_isBelow 2 rfl) ?_
  refine pw_lloadn (aX12_isBelow 3 rfl) rfl ?_
  refine pw_ldc2 (v := (-9223372036854775808 : Int64)) (aX12_isBelow 4 rfl) uk_RX12_392 ?_
  refine pw_ladd (aX12_isBelow 5 rfl) ?_
  refine pw_ite (pw_lcge (tgt := 18) (aX12_isBelow 6 rfl) (aX12_isBelow 7 rfl) (by decide) (fun b0 => ?_) (fun b0 => ?_))
  · skip
    refine pw_iconst (v := (1 : Int32)) (aX12_isBelow 8 rfl) rfl ?_
    refine pw_goto (tgt := 19) (aX12_isBelow 9 rfl) (by decide) ?_
    exact pw_iret (aX12_isBelow 11 rfl) hok
  · skip
    refine pw_iconst (v := (0 : Int32)) (aX12_isBelow 10 rfl) rfl ?_
    exact pw_iret (aX12_isBelow 11 rfl) hok
set_option maxHeartbeats 4000000 in
set_option maxRecDepth 100000 in
theorem rX12_rest {sk : xK} {base N d : Nat} (hkb : x_kb sk base) (a1 : Int64) (a2 : Int64) (n sl : Nat) (SH : Nat → Nat × Nat) (FI : Nat → Nat → Int32) (FL : Nat → Nat → Int64) (FR : Nat → Nat → Option Nat) (hok : pk n SH FR)  : pw pj_J sk base N d none 175 0 [(0, .ref (base + 121)), (1, .long (a1)), (3, .long (a2))] [] (n, sl, SH, FI, FL, FR) (P_ret (fX12_rest a1 a2 SH FI FL FR) (n, sl, SH, FI, FL, FR)) := by
  unfold fX12_rest
  refine pw_lloadn (aX12_rest 0 rfl) rfl ?_
  refine pw_lconst (v := (0 : Int64)) (aX12_rest 1 rfl) rfl ?_
  refine pw_ite (pw_lcge (tgt := 23) (aX12_rest 2 rfl) (aX12_rest 3 rfl) (by decide) (fun b0 => ?_) (fun b0 => ?_))
  · skip
    refine pw_aloadn (aX12_rest 4 rfl) rfl ?_
    refine pw_lloadn (aX12_rest 5 rfl) rfl ?_
    refine pw_lloadn (aX12_rest 6 rfl) rfl ?_
    refine pw_cf (pw_callV (Bs := [.long (a1), .long (a2)]) (rest := []) (aX12_rest 7 rfl) um_RX12_242 ujX12_isBelow wc_RX12_242.2.2.2.2 (by decide) (by decide) rfl rfl (fun d => rX12_isBelow hkb (a1) (a2) n sl SH FI FL FR hok) (fun v1 n1 sl1 SH1 FI1 FL1 FR1 _ hC => ?_))
    obtain ⟨e9, hC⟩ := hC; have e9 := e9.symm; subst e9; cases hC
    show pw _ _ _ _ _ _ _ 12 _ [.int (fX12_isBelow (a1) (a2) SH FI FL FR)] _ _
    refine pw_ite (pw_ifeq (tgt := 19) (aX12_rest 8 rfl) (by decide) (fun b2 => ?_) (fun b2 => ?_))
    · skip
      refine pw_lloadn (aX12_rest 11 rfl) rfl ?_
      refine pw_lloadn (aX12_rest 12 rfl) rfl ?_
      refine pw_lsub (aX12_rest 13 rfl) ?_
      exact pw_lret (aX12_rest 14 rfl) hok
    · skip
      refine pw_lloadn (aX12_rest 9 rfl) rfl ?_
      refine pw_goto (tgt := 22) (aX12_rest 10 rfl) (by decide) ?_
      exact pw_lret (aX12_rest 14 rfl) hok
  · skip
    refine pw_lloadn (aX12_rest 15 rfl) rfl ?_
    refine pw_lconst (v := (0 : Int64)) (aX12_rest 16 rfl) rfl ?_
    refine pw_ite (pw_lclt (tgt := 33) (aX12_rest 17 rfl) (aX12_rest 18 rfl) (by decide) (fun b3 => ?_) (fun b3 => ?_))
    · skip
      refine pw_lloadn (aX12_rest 23 rfl) rfl ?_
      refine pw_lloadn (aX12_rest 24 rfl) rfl ?_
      refine pw_iconst (v := (1 : Int32)) (aX12_rest 25 rfl) rfl ?_
      refine pw_lushr (aX12_rest 26 rfl) ?_
      refine pw_lloadn (aX12_rest 27 rfl) rfl ?_
      refine pw_sd (pw_ldiv (aX12_rest 28 rfl) (fun _ => ?_))
      refine pw_iconst (v := (1 : Int32)) (aX12_rest 29 rfl) rfl ?_
      refine pw_lshl (aX12_rest 30 rfl) ?_
      refine pw_lloadn (aX12_rest 31 rfl) rfl ?_
      refine pw_lmul (aX12_rest 32 rfl) ?_
      refine pw_lsub (aX12_rest 33 rfl) ?_
      refine pw_lstore (L2 := [(5, .long ((a1) - ((((((a1).toUInt64 >>> (((1 : Int32)).toInt64.toUInt64 &&& Int64.toUInt64 63)).toInt64) / (a2)) <<< (((1 : Int32)).toInt64 &&& 63)) * (a2)))), (0, .ref (base + 121)), (1, .long (a1)), (3, .long (a2))]) (aX12_rest 34 rfl) rfl ?_
      refine pw_aloadn (aX12_rest 35 rfl) rfl ?_
      refine pw_lload (aX12_rest 36 rfl) rfl ?_
      refine pw_lloadn (aX12_rest 37 rfl) rfl ?_
      refine pw_cf (pw_callV (Bs := [.long ((a1) - ((((((a1).toUInt64 >>> (((1 : Int32)).toInt64.toUInt64 &&& Int64.toUInt64 63)).toInt64) / (a2)) <<< (((1 : Int32)).toInt64 &&& 63)) * (a2))), .long (a2)]) (rest := []) (aX12_rest 38 rfl) um_RX12_242 ujX12_isBelow wc_RX12_242.2.2.2.2 (by decide) (by decide) rfl rfl (fun d => rX12_isBelow hkb ((a1) - ((((((a1).toUInt64 >>> (((1 : Int32)).toInt64.toUInt64 &&& Int64.toUInt64 63)).toInt64) / (a2)) <<< (((1 : Int32)).toInt64 &&& 63)) * (a2))) (a2) n sl SH FI FL FR hok) (fun v4 n4 sl4 SH4 FI4 FL4 FR4 _ hC => ?_))
      obtain ⟨e9, hC⟩ := hC; have e9 := e9.symm; subst e9; cases hC
      show pw _ _ _ _ _ _ _ 53 _ [.int (fX12_isBelow ((a1) - ((((((a1).toUInt64 >>> (((1 : Int32)).toInt64.toUInt64 &&& Int64.toUInt64 63)).toInt64) / (a2)) <<< (((1 : Int32)).toInt64 &&& 63)) * (a2))) (a2) SH FI FL FR)] _ _
      refine pw_ite (pw_ifeq (tgt := 61) (aX12_rest 39 rfl) (by decide) (fun b5 => ?_) (fun b5 => ?_))
      · skip
        refine pw_lload (aX12_rest 42 rfl) rfl ?_
        refine pw_lloadn (aX12_rest 43 rfl) rfl ?_
        refine pw_lsub (aX12_rest 44 rfl) ?_
        exact pw_lret (aX12_rest 45 rfl) hok
      · skip
        refine pw_lload (aX12_rest 40 rfl) rfl ?_
        refine pw_goto (tgt := 65) (aX12_rest 41 rfl) (by decide) ?_
        exact pw_lret (aX12_rest 45 rfl) hok
    · skip
      refine pw_lloadn (aX12_rest 19 rfl) rfl ?_
      refine pw_lloadn (aX12_rest 20 rfl) rfl ?_
      refine pw_sd (pw_lrem (aX12_rest 21 rfl) (fun _ => ?_))
      exact pw_lret (aX12_rest 22 rfl) hok
set_option maxHeartbeats 4000000 in
set_option maxRecDepth 100000 in
theorem rX12_worked {sk : xK} {base N d : Nat} (hkb : x_kb sk base) (a1 : Int32) (a2 : Int64) (a3 : Int64) (n sl : Nat) (SH : Nat → Nat × Nat) (FI : Nat → Nat → Int32) (FL : Nat → Nat → Int64) (FR : Nat → Nat → Option Nat) (hok : pk n SH FR)  : pw pj_J sk base N d none 176 0 [(0, .ref (base + 121)), (1, .int (a1)), (2, .long (a2)), (4, .long (a3))] [] (n, sl, SH, FI, FL, FR) (P_ret (fX12_worked a1 a2 a3 SH FI FL FR) (n, sl, SH, FI, FL, FR)) := by
  unfold fX12_worked
  refine pw_iloadn (aX12_worked 0 rfl) rfl ?_
  refine pw_bipush (v := (26 : Int32)) (aX12_worked 1 rfl) rfl ?_
  refine pw_ite (pw_icne (tgt := 11) (aX12_worked 2 rfl) (by decide) (fun b0 => ?_) (fun b0 => ?_))
  · skip
    refine pw_lloadn (aX12_worked 3 rfl) rfl ?_
    refine pw_lload (aX12_worked 4 rfl) rfl ?_
    refine pw_land (aX12_worked 5 rfl) ?_
    exact pw_lret (aX12_worked 6 rfl) hok
  · skip
    refine pw_iloadn (aX12_worked 7 rfl) rfl ?_
    refine pw_bipush (v := (33 : Int32)) (aX12_worked 8 rfl) rfl ?_
    refine pw_ite (pw_icne (tgt := 22) (aX12_worked 9 rfl) (by decide) (fun b1 => ?_) (fun b1 => ?_))
    · skip
      refine pw_lloadn (aX12_worked 10 rfl) rfl ?_
      refine pw_lload (aX12_worked 11 rfl) rfl ?_
      refine pw_lor (aX12_worked 12 rfl) ?_
      exact pw_lret (aX12_worked 13 rfl) hok
    · skip
      refine pw_iloadn (aX12_worked 14 rfl) rfl ?_
      refine pw_bipush (v := (39 : Int32)) (aX12_worked 15 rfl) rfl ?_
      refine pw_ite (pw_icne (tgt := 33) (aX12_worked 16 rfl) (by decide) (fun b2 => ?_) (fun b2 => ?_))
      · skip
        refine pw_lloadn (aX12_worked 17 rfl) rfl ?_
        refine pw_lload (aX12_worked 18 rfl) rfl ?_
        refine pw_lxor (aX12_worked 19 rfl) ?_
        exact pw_lret (aX12_worked 20 rfl) hok
      · skip
        refine pw_iloadn (aX12_worked 21 rfl) rfl ?_
        refine pw_bipush (v := (34 : Int32)) (aX12_worked 22 rfl) rfl ?_
        refine pw_ite (pw_icne (tgt := 44) (aX12_worked 23 rfl) (by decide) (fun b3 => ?_) (fun b3 => ?_))
        · skip
          refine pw_lloadn (aX12_worked 24 rfl) rfl ?_
          refine pw_lload (aX12_worked 25 rfl) rfl ?_
          refine pw_ladd (aX12_worked 26 rfl) ?_
          exact pw_lret (aX12_worked 27 rfl) hok
        · skip
          refine pw_iloadn (aX12_worked 28 rfl) rfl ?_
          refine pw_bipush (v := (28 : Int32)) (aX12_worked 29 rfl) rfl ?_
          refine pw_ite (pw_icne (tgt := 55) (aX12_worked 30 rfl) (by decide) (fun b4 => ?_) (fun b4 => ?_))
          · skip
            refine pw_lloadn (aX12_worked 31 rfl) rfl ?_
            refine pw_lload (aX12_worked 32 rfl) rfl ?_
            refine pw_lsub (aX12_worked 33 rfl) ?_
            exact pw_lret (aX12_worked 34 rfl) hok
          · skip
            refine pw_iloadn (aX12_worked 35 rfl) rfl ?_
            refine pw_bipush (v := (30 : Int32)) (aX12_worked 36 rfl) rfl ?_
            refine pw_ite (pw_icne (tgt := 66) (aX12_worked 37 rfl) (by decide) (fun b5 => ?_) (fun b5 => ?_))
            · skip
              refine pw_lloadn (aX12_worked 38 rfl) rfl ?_
              refine pw_lload (aX12_worked 39 rfl) rfl ?_
              refine pw_lmul (aX12_worked 40 rfl) ?_
              exact pw_lret (aX12_worked 41 rfl) hok
            · skip
              refine pw_iloadn (aX12_worked 42 rfl) rfl ?_
              refine pw_bipush (v := (27 : Int32)) (aX12_worked 43 rfl) rfl ?_
              refine pw_ite (pw_icne (tgt := 77) (aX12_worked 44 rfl) (by decide) (fun b6 => ?_) (fun b6 => ?_))
              · skip
                refine pw_lloadn (aX12_worked 45 rfl) rfl ?_
                refine pw_lload (aX12_worked 46 rfl) rfl ?_
                refine pw_sd (pw_ldiv (aX12_worked 47 rfl) (fun _ => ?_))
                exact pw_lret (aX12_worked 48 rfl) hok
              · skip
                refine pw_iloadn (aX12_worked 49 rfl) rfl ?_
                refine pw_bipush (v := (29 : Int32)) (aX12_worked 50 rfl) rfl ?_
                refine pw_ite (pw_icne (tgt := 91) (aX12_worked 51 rfl) (by decide) (fun b7 => ?_) (fun b7 => ?_))
                · skip
                  refine pw_aloadn (aX12_worked 52 rfl) rfl ?_
                  refine pw_lloadn (aX12_worked 53 rfl) rfl ?_
                  refine pw_lload (aX12_worked 54 rfl) rfl ?_
                  refine pw_cf (pw_callV (Bs := [.long (a2), .long (a3)]) (rest := []) (aX12_worked 55 rfl) um_RX12_246 ujX12_rest wc_RX12_246.2.2.2.2 (by decide) (by decide) rfl rfl (fun d => rX12_rest hkb (a2) (a3) n sl SH FI FL FR hok) (fun v8 n8 sl8 SH8 FI8 FL8 FR8 _ hC => ?_))
                  obtain ⟨rfl, hC⟩ := hC; cases hC
                  show pw _ _ _ _ _ _ _ 90 _ [.long (fX12_rest (a2) (a3) SH FI FL FR)] _ _
                  exact pw_lret (aX12_worked 56 rfl) hok
                · skip
                  refine pw_lload (aX12_worked 57 rfl) rfl ?_
                  refine pw_lconst (v := (0 : Int64)) (aX12_worked 58 rfl) rfl ?_
                  refine pw_ite (pw_lclt (tgt := 107) (aX12_worked 59 rfl) (aX12_worked 60 rfl) (by decide) (fun b9 => ?_) (fun b9 => ?_))
                  · skip
                    refine pw_iconst (v := (1 : Int32)) (aX12_worked 65 rfl) rfl ?_
                    refine pw_goto (tgt := 112) (aX12_worked 66 rfl) (by decide) ?_
                    refine pw_istore (L2 := [(6, .int ((1 : Int32))), (0, .ref (base + 121)), (1, .int (a1)), (2, .long (a2)), (4, .long (a3))]) (aX12_worked 68 rfl) rfl ?_
                    refine pw_iloadn (aX12_worked 69 rfl) rfl ?_
                    refine pw_bipush (v := (36 : Int32)) (aX12_worked 70 rfl) rfl ?_
                    refine pw_ite (pw_icne (tgt := 135) (aX12_worked 71 rfl) (by decide) (fun b10 => ?_) (fun b10 => ?_))
                    · skip
                      refine pw_iload (aX12_worked 72 rfl) rfl ?_
                      refine pw_ite (pw_ifeq (tgt := 129) (aX12_worked 73 rfl) (by decide) (fun b11 => ?_) (fun b11 => ?_))
                      · skip
                        refine pw_lloadn (aX12_worked 76 rfl) rfl ?_
                        refine pw_lload (aX12_worked 77 rfl) rfl ?_
                        refine pw_l2i (aX12_worked 78 rfl) ?_
                        refine pw_lshl (aX12_worked 79 rfl) ?_
                        exact pw_lret (aX12_worked 80 rfl) hok
                      · skip
                        refine pw_lconst (v := (0 : Int64)) (aX12_worked 74 rfl) rfl ?_
                        refine pw_goto (tgt := 134) (aX12_worked 75 rfl) (by decide) ?_
                        exact pw_lret (aX12_worked 80 rfl) hok
                    · skip
                      refine pw_iloadn (aX12_worked 81 rfl) rfl ?_
                      refine pw_bipush (v := (37 : Int32)) (aX12_worked 82 rfl) rfl ?_
                      refine pw_ite (pw_icne (tgt := 156) (aX12_worked 83 rfl) (by decide) (fun b12 => ?_) (fun b12 => ?_))
                      · skip
                        refine pw_iload (aX12_worked 84 rfl) rfl ?_
                        refine pw_ite (pw_ifeq (tgt := 150) (aX12_worked 85 rfl) (by decide) (fun b13 => ?_) (fun b13 => ?_))
                        · skip
                          refine pw_lloadn (aX12_worked 88 rfl) rfl ?_
                          refine pw_lload (aX12_worked 89 rfl) rfl ?_
                          refine pw_l2i (aX12_worked 90 rfl) ?_
                          refine pw_lushr (aX12_worked 91 rfl) ?_
                          exact pw_lret (aX12_worked 92 rfl) hok
                        · skip
                          refine pw_lconst (v := (0 : Int64)) (aX12_worked 86 rfl) rfl ?_
                          refine pw_goto (tgt := 155) (aX12_worked 87 rfl) (by decide) ?_
                          exact pw_lret (aX12_worked 92 rfl) hok
                      · skip
                        refine pw_iloadn (aX12_worked 93 rfl) rfl ?_
                        refine pw_bipush (v := (38 : Int32)) (aX12_worked 94 rfl) rfl ?_
                        refine pw_ite (pw_icne (tgt := 189) (aX12_worked 95 rfl) (by decide) (fun b14 => ?_) (fun b14 => ?_))
                        · skip
                          refine pw_iload (aX12_worked 96 rfl) rfl ?_
                          refine pw_ite (pw_ifeq (tgt := 183) (aX12_worked 97 rfl) (by decide) (fun b15 => ?_) (fun b15 => ?_))
                          · skip
                            refine pw_lloadn (aX12_worked 106 rfl) rfl ?_
                            refine pw_lload (aX12_worked 107 rfl) rfl ?_
                            refine pw_l2i (aX12_worked 108 rfl) ?_
                            refine pw_lshr (aX12_worked 109 rfl) ?_
                            exact pw_lret (aX12_worked 110 rfl) hok
                          · skip
                            refine pw_lloadn (aX12_worked 98 rfl) rfl ?_
                            refine pw_lconst (v := (0 : Int64)) (aX12_worked 99 rfl) rfl ?_
                            refine pw_ite (pw_lcge (tgt := 179) (aX12_worked 100 rfl) (aX12_worked 101 rfl) (by decide) (fun b16 => ?_) (fun b16 => ?_))
                            · skip
                              refine pw_ldc2 (v := (-1 : Int64)) (aX12_worked 102 rfl) uk_RX12_226 ?_
                              refine pw_goto (tgt := 188) (aX12_worked 103 rfl) (by decide) ?_
                              exact pw_lret (aX12_worked 110 rfl) hok
                            · skip
                              refine pw_lconst (v := (0 : Int64)) (aX12_worked 104 rfl) rfl ?_
                              refine pw_goto (tgt := 188) (aX12_worked 105 rfl) (by decide) ?_
                              exact pw_lret (aX12_worked 110 rfl) hok
                        · skip
                          refine pw_iloadn (aX12_worked 111 rfl) rfl ?_
                          refine pw_bipush (v := (41 : Int32)) (aX12_worked 112 rfl) rfl ?_
                          refine pw_ite (pw_icne (tgt := 212) (aX12_worked 113 rfl) (by decide) (fun b17 => ?_) (fun b17 => ?_))
                          · skip
                            refine pw_lloadn (aX12_worked 114 rfl) rfl ?_
                            refine pw_lload (aX12_worked 115 rfl) rfl ?_
                            refine pw_ite (pw_lcne (tgt := 206) (aX12_worked 116 rfl) (aX12_worked 117 rfl) (by decide) (fun b18 => ?_) (fun b18 => ?_))
                            · skip
                              refine pw_iconst (v := (1 : Int32)) (aX12_worked 118 rfl) rfl ?_
                              refine pw_goto (tgt := 207) (aX12_worked 119 rfl) (by decide) ?_
                              refine pw_istore (L2 := [(7, .int ((1 : Int32))), (6, .int ((1 : Int32))), (0, .ref (base + 121)), (1, .int (a1)), (2, .long (a2)), (4, .long (a3))]) (aX12_worked 121 rfl) rfl ?_
                              refine pw_goto (tgt := 318) (aX12_worked 122 rfl) (by decide) ?_
                              refine pw_iload (aX12_worked 179 rfl) rfl ?_
                              refine pw_ite (pw_ifeq (tgt := 327) (aX12_worked 180 rfl) (by decide) (fun b19 => ?_) (fun b19 => ?_))
                              · skip
                                refine pw_lconst (v := (0 : Int64)) (aX12_worked 183 rfl) rfl ?_
                                exact pw_lret (aX12_worked 184 rfl) hok
                              · skip
                                refine pw_lconst (v := (1 : Int64)) (aX12_worked 181 rfl) rfl ?_
                                refine pw_goto (tgt := 328) (aX12_worked 182 rfl) (by decide) ?_
                                exact pw_lret (aX12_worked 184 rfl) hok
                            · skip
                              refine pw_iconst (v := (0 : Int32)) (aX12_worked 120 rfl) rfl ?_
                              refine pw_istore (L2 := [(7, .int ((0 : Int32))), (6, .int ((1 : Int32))), (0, .ref (base + 121)), (1, .int (a1)), (2, .long (a2)), (4, .long (a3))]) (aX12_worked 121 rfl) rfl ?_
                              refine pw_goto (tgt := 318) (aX12_worked 122 rfl) (by decide) ?_
                              refine pw_iload (aX12_worked 179 rfl) rfl ?_
                              refine pw_ite (pw_ifeq (tgt := 327) (aX12_worked 180 rfl) (by decide) (fun b20 => ?_) (fun b20 => ?_))
                              · skip
                                refine pw_lconst (v := (0 : Int64)) (aX12_worked 183 rfl) rfl ?_
                                exact pw_lret (aX12_worked 184 rfl) hok
                              · skip
                                refine pw_lconst (v := (1 : Int64)) (aX12_worked 181 rfl) rfl ?_
                                refine pw_goto (tgt := 328) (aX12_worked 182 rfl) (by decide) ?_
                                exact pw_lret (aX12_worked 184 rfl) hok
                          · skip
                            refine pw_iloadn (aX12_worked 123 rfl) rfl ?_
                            refine pw_bipush (v := (42 : Int32)) (aX12_worked 124 rfl) rfl ?_
                            refine pw_ite (pw_icne (tgt := 235) (aX12_worked 125 rfl) (by decide) (fun b21 => ?_) (fun b21 => ?_))
                            · skip
                              refine pw_lloadn (aX12_worked 126 rfl) rfl ?_
                              refine pw_lload (aX12_worked 127 rfl) rfl ?_
                              refine pw_ite (pw_lclt (tgt := 229) (aX12_worked 128 rfl) (aX12_worked 129 rfl) (by decide) (fun b22 => ?_) (fun b22 => ?_))
                              · skip
                                refine pw_iconst (v := (0 : Int32)) (aX12_worked 132 rfl) rfl ?_
                                refine pw_istore (L2 := [(7, .int ((0 : Int32))), (6, .int ((1 : Int32))), (0, .ref (base + 121)), (1, .int (a1)), (2, .long (a2)), (4, .long (a3))]) (aX12_worked 133 rfl) rfl ?_
                                refine pw_goto (tgt := 318) (aX12_worked 134 rfl) (by decide) ?_
                                refine pw_iload (aX12_worked 179 rfl) rfl ?_
                                refine pw_ite (pw_ifeq (tgt := 327) (aX12_worked 180 rfl) (by decide) (fun b23 => ?_) (fun b23 => ?_))
                                · skip
                                  refine pw_lconst (v := (0 : Int64)) (aX12_worked 183 rfl) rfl ?_
                                  exact pw_lret (aX12_worked 184 rfl) hok
                                · skip
                                  refine pw_lconst (v := (1 : Int64)) (aX12_worked 181 rfl) rfl ?_
                                  refine pw_goto (tgt := 328) (aX12_worked 182 rfl) (by decide) ?_
                                  exact pw_lret (aX12_worked 184 rfl) hok
                              · skip
                                refine pw_iconst (v := (1 : Int32)) (aX12_worked 130 rfl) rfl ?_
                                refine pw_goto (tgt := 230) (aX12_worked 131 rfl) (by decide) ?_
                                refine pw_istore (L2 := [(7, .int ((1 : Int32))), (6, .int ((1 : Int32))), (0, .ref (base + 121)), (1, .int (a1)), (2, .long (a2)), (4, .long (a3))]) (aX12_worked 133 rfl) rfl ?_
                                refine pw_goto (tgt := 318) (aX12_worked 134 rfl) (by decide) ?_
                                refine pw_iload (aX12_worked 179 rfl) rfl ?_
                                refine pw_ite (pw_ifeq (tgt := 327) (aX12_worked 180 rfl) (by decide) (fun b24 => ?_) (fun b24 => ?_))
                                · skip
                                  refine pw_lconst (v := (0 : Int64)) (aX12_worked 183 rfl) rfl ?_
                                  exact pw_lret (aX12_worked 184 rfl) hok
                                · skip
                                  refine pw_lconst (v := (1 : Int64)) (aX12_worked 181 rfl) rfl ?_
                                  refine pw_goto (tgt := 328) (aX12_worked 182 rfl) (by decide) ?_
                                  exact pw_lret (aX12_worked 184 rfl) hok
                            · skip
                              refine pw_iloadn (aX12_worked 135 rfl) rfl ?_
                              refine pw_bipush (v := (43 : Int32)) (aX12_worked 136 rfl) rfl ?_
                              refine pw_ite (pw_icne (tgt := 258) (aX12_worked 137 rfl) (by decide) (fun b25 => ?_) (fun b25 => ?_))
                              · skip
                                refine pw_lloadn (aX12_worked 138 rfl) rfl ?_
                                refine pw_lload (aX12_worked 139 rfl) rfl ?_
                                refine pw_ite (pw_lcle (tgt := 252) (aX12_worked 140 rfl) (aX12_worked 141 rfl) (by decide) (fun b26 => ?_) (fun b26 => ?_))
                                · skip
                                  refine pw_iconst (v := (1 : Int32)) (aX12_worked 142 rfl) rfl ?_
                                  refine pw_goto (tgt := 253) (aX12_worked 143 rfl) (by decide) ?_
                                  refine pw_istore (L2 := [(7, .int ((1 : Int32))), (6, .int ((1 : Int32))), (0, .ref (base + 121)), (1, .int (a1)), (2, .long (a2)), (4, .long (a3))]) (aX12_worked 145 rfl) rfl ?_
                                  refine pw_goto (tgt := 318) (aX12_worked 146 rfl) (by decide) ?_
                                  refine pw_iload (aX12_worked 179 rfl) rfl ?_
                                  refine pw_ite (pw_ifeq (tgt := 327) (aX12_worked 180 rfl) (by decide) (fun b27 => ?_) (fun b27 => ?_))
                                  · skip
                                    refine pw_lconst (v := (0 : Int64)) (aX12_worked 183 rfl) rfl ?_
                                    exact pw_lret (aX12_worked 184 rfl) hok
                                  · skip
                                    refine pw_lconst (v := (1 : Int64)) (aX12_worked 181 rfl) rfl ?_
                                    refine pw_goto (tgt := 328) (aX12_worked 182 rfl) (by decide) ?_
                                    exact pw_lret (aX12_worked 184 rfl) hok
                                · skip
                                  refine pw_iconst (v := (0 : Int32)) (aX12_worked 144 rfl) rfl ?_
                                  refine pw_istore (L2 := [(7, .int ((0 : Int32))), (6, .int ((1 : Int32))), (0, .ref (base + 121)), (1, .int (a1)), (2, .long (a2)), (4, .long (a3))]) (aX12_worked 145 rfl) rfl ?_
                                  refine pw_goto (tgt := 318) (aX12_worked 146 rfl) (by decide) ?_
                                  refine pw_iload (aX12_worked 179 rfl) rfl ?_
                                  refine pw_ite (pw_ifeq (tgt := 327) (aX12_worked 180 rfl) (by decide) (fun b28 => ?_) (fun b28 => ?_))
                                  · skip
                                    refine pw_lconst (v := (0 : Int64)) (aX12_worked 183 rfl) rfl ?_
                                    exact pw_lret (aX12_worked 184 rfl) hok
                                  · skip
                                    refine pw_lconst (v := (1 : Int64)) (aX12_worked 181 rfl) rfl ?_
                                    refine pw_goto (tgt := 328) (aX12_worked 182 rfl) (by decide) ?_
                                    exact pw_lret (aX12_worked 184 rfl) hok
                              · skip
                                refine pw_iloadn (aX12_worked 147 rfl) rfl ?_
                                refine pw_bipush (v := (44 : Int32)) (aX12_worked 148 rfl) rfl ?_
                                refine pw_ite (pw_icne (tgt := 281) (aX12_worked 149 rfl) (by decide) (fun b29 => ?_) (fun b29 => ?_))
                                · skip
                                  refine pw_lloadn (aX12_worked 150 rfl) rfl ?_
                                  refine pw_lload (aX12_worked 151 rfl) rfl ?_
                                  refine pw_ite (pw_lcgt (tgt := 275) (aX12_worked 152 rfl) (aX12_worked 153 rfl) (by decide) (fun b30 => ?_) (fun b30 => ?_))
                                  · skip
                                    refine pw_iconst (v := (0 : Int32)) (aX12_worked 156 rfl) rfl ?_
                                    refine pw_istore (L2 := [(7, .int ((0 : Int32))), (6, .int ((1 : Int32))), (0, .ref (base + 121)), (1, .int (a1)), (2, .long (a2)), (4, .long (a3))]) (aX12_worked 157 rfl) rfl ?_
                                    refine pw_goto (tgt := 318) (aX12_worked 158 rfl) (by decide) ?_
                                    refine pw_iload (aX12_worked 179 rfl) rfl ?_
                                    refine pw_ite (pw_ifeq (tgt := 327) (aX12_worked 180 rfl) (by decide) (fun b31 => ?_) (fun b31 => ?_))
                                    · skip
                                      refine pw_lconst (v := (0 : Int64)) (aX12_worked 183 rfl) rfl ?_
                                      exact pw_lret (aX12_worked 184 rfl) hok
                                    · skip
                                      refine pw_lconst (v := (1 : Int64)) (aX12_worked 181 rfl) rfl ?_
                                      refine pw_goto (tgt := 328) (aX12_worked 182 rfl) (by decide) ?_
                                      exact pw_lret (aX12_worked 184 rfl) hok
                                  · skip
                                    refine pw_iconst (v := (1 : Int32)) (aX12_worked 154 rfl) rfl ?_
                                    refine pw_goto (tgt := 276) (aX12_worked 155 rfl) (by decide) ?_
                                    refine pw_istore (L2 := [(7, .int ((1 : Int32))), (6, .int ((1 : Int32))), (0, .ref (base + 121)), (1, .int (a1)), (2, .long (a2)), (4, .long (a3))]) (aX12_worked 157 rfl) rfl ?_
                                    refine pw_goto (tgt := 318) (aX12_worked 158 rfl) (by decide) ?_
                                    refine pw_iload (aX12_worked 179 rfl) rfl ?_
                                    refine pw_ite (pw_ifeq (tgt := 327) (aX12_worked 180 rfl) (by decide) (fun b32 => ?_) (fun b32 => ?_))
                                    · skip
                                      refine pw_lconst (v := (0 : Int64)) (aX12_worked 183 rfl) rfl ?_
                                      exact pw_lret (aX12_worked 184 rfl) hok
                                    · skip
                                      refine pw_lconst (v := (1 : Int64)) (aX12_worked 181 rfl) rfl ?_
                                      refine pw_goto (tgt := 328) (aX12_worked 182 rfl) (by decide) ?_
                                      exact pw_lret (aX12_worked 184 rfl) hok
                                · skip
                                  refine pw_iloadn (aX12_worked 159 rfl) rfl ?_
                                  refine pw_bipush (v := (45 : Int32)) (aX12_worked 160 rfl) rfl ?_
                                  refine pw_ite (pw_icne (tgt := 304) (aX12_worked 161 rfl) (by decide) (fun b33 => ?_) (fun b33 => ?_))
                                  · skip
                                    refine pw_lloadn (aX12_worked 162 rfl) rfl ?_
                                    refine pw_lload (aX12_worked 163 rfl) rfl ?_
                                    refine pw_ite (pw_lcge (tgt := 298) (aX12_worked 164 rfl) (aX12_worked 165 rfl) (by decide) (fun b34 => ?_) (fun b34 => ?_))
                                    · skip
                                      refine pw_iconst (v := (1 : Int32)) (aX12_worked 166 rfl) rfl ?_
                                      refine pw_goto (tgt := 299) (aX12_worked 167 rfl) (by decide) ?_
                                      refine pw_istore (L2 := [(7, .int ((1 : Int32))), (6, .int ((1 : Int32))), (0, .ref (base + 121)), (1, .int (a1)), (2, .long (a2)), (4, .long (a3))]) (aX12_worked 169 rfl) rfl ?_
                                      refine pw_goto (tgt := 318) (aX12_worked 170 rfl) (by decide) ?_
                                      refine pw_iload (aX12_worked 179 rfl) rfl ?_
                                      refine pw_ite (pw_ifeq (tgt := 327) (aX12_worked 180 rfl) (by decide) (fun b35 => ?_) (fun b35 => ?_))
                                      · skip
                                        refine pw_lconst (v := (0 : Int64)) (aX12_worked 183 rfl) rfl ?_
                                        exact pw_lret (aX12_worked 184 rfl) hok
                                      · skip
                                        refine pw_lconst (v := (1 : Int64)) (aX12_worked 181 rfl) rfl ?_
                                        refine pw_goto (tgt := 328) (aX12_worked 182 rfl) (by decide) ?_
                                        exact pw_lret (aX12_worked 184 rfl) hok
                                    · skip
                                      refine pw_iconst (v := (0 : Int32)) (aX12_worked 168 rfl) rfl ?_
                                      refine pw_istore (L2 := [(7, .int ((0 : Int32))), (6, .int ((1 : Int32))), (0, .ref (base + 121)), (1, .int (a1)), (2, .long (a2)), (4, .long (a3))]) (aX12_worked 169 rfl) rfl ?_
                                      refine pw_goto (tgt := 318) (aX12_worked 170 rfl) (by decide) ?_
                                      refine pw_iload (aX12_worked 179 rfl) rfl ?_
                                      refine pw_ite (pw_ifeq (tgt := 327) (aX12_worked 180 rfl) (by decide) (fun b36 => ?_) (fun b36 => ?_))
                                      · skip
                                        refine pw_lconst (v := (0 : Int64)) (aX12_worked 183 rfl) rfl ?_
                                        exact pw_lret (aX12_worked 184 rfl) hok
                                      · skip
                                        refine pw_lconst (v := (1 : Int64)) (aX12_worked 181 rfl) rfl ?_
                                        refine pw_goto (tgt := 328) (aX12_worked 182 rfl) (by decide) ?_
                                        exact pw_lret (aX12_worked 184 rfl) hok
                                  · skip
                                    refine pw_lloadn (aX12_worked 171 rfl) rfl ?_
                                    refine pw_lload (aX12_worked 172 rfl) rfl ?_
                                    refine pw_ite (pw_lceq (tgt := 315) (aX12_worked 173 rfl) (aX12_worked 174 rfl) (by decide) (fun b37 => ?_) (fun b37 => ?_))
                                    · skip
                                      refine pw_iconst (v := (0 : Int32)) (aX12_worked 177 rfl) rfl ?_
                                      refine pw_istore (L2 := [(7, .int ((0 : Int32))), (6, .int ((1 : Int32))), (0, .ref (base + 121)), (1, .int (a1)), (2, .long (a2)), (4, .long (a3))]) (aX12_worked 178 rfl) rfl ?_
                                      refine pw_iload (aX12_worked 179 rfl) rfl ?_
                                      refine pw_ite (pw_ifeq (tgt := 327) (aX12_worked 180 rfl) (by decide) (fun b38 => ?_) (fun b38 => ?_))
                                      · skip
                                        refine pw_lconst (v := (0 : Int64)) (aX12_worked 183 rfl) rfl ?_
                                        exact pw_lret (aX12_worked 184 rfl) hok
                                      · skip
                                        refine pw_lconst (v := (1 : Int64)) (aX12_worked 181 rfl) rfl ?_
                                        refine pw_goto (tgt := 328) (aX12_worked 182 rfl) (by decide) ?_
                                        exact pw_lret (aX12_worked 184 rfl) hok
                                    · skip
                                      refine pw_iconst (v := (1 : Int32)) (aX12_worked 175 rfl) rfl ?_
                                      refine pw_goto (tgt := 316) (aX12_worked 176 rfl) (by decide) ?_
                                      refine pw_istore (L2 := [(7, .int ((1 : Int32))), (6, .int ((1 : Int32))), (0, .ref (base + 121)), (1, .int (a1)), (2, .long (a2)), (4, .long (a3))]) (aX12_worked 178 rfl) rfl ?_
                                      refine pw_iload (aX12_worked 179 rfl) rfl ?_
                                      refine pw_ite (pw_ifeq (tgt := 327) (aX12_worked 180 rfl) (by decide) (fun b39 => ?_) (fun b39 => ?_))
                                      · skip
                                        refine pw_lconst (v := (0 : Int64)) (aX12_worked 183 rfl) rfl ?_
                                        exact pw_lret (aX12_worked 184 rfl) hok
                                      · skip
                                        refine pw_lconst (v := (1 : Int64)) (aX12_worked 181 rfl) rfl ?_
                                        refine pw_goto (tgt := 328) (aX12_worked 182 rfl) (by decide) ?_
                                        exact pw_lret (aX12_worked 184 rfl) hok
                  · skip
                    refine pw_lload (aX12_worked 61 rfl) rfl ?_
                    refine pw_ldc2 (v := (63 : Int64)) (aX12_worked 62 rfl) uk_RX12_250 ?_
                    refine pw_ite (pw_lcle (tgt := 111) (aX12_worked 63 rfl) (aX12_worked 64 rfl) (by decide) (fun b40 => ?_) (fun b40 => ?_))
                    · skip
                      refine pw_iconst (v := (1 : Int32)) (aX12_worked 65 rfl) rfl ?_
                      refine pw_goto (tgt := 112) (aX12_worked 66 rfl) (by decide) ?_
                      refine pw_istore (L2 := [(6, .int ((1 : Int32))), (0, .ref (base + 121)), (1, .int (a1)), (2, .long (a2)), (4, .long (a3))]) (aX12_worked 68 rfl) rfl ?_
                      refine pw_iloadn (aX12_worked 69 rfl) rfl ?_
                      refine pw_bipush (v := (36 : Int32)) (aX12_worked 70 rfl) rfl ?_
                      refine pw_ite (pw_icne (tgt := 135) (aX12_worked 71 rfl) (by decide) (fun b41 => ?_) (fun b41 => ?_))
                      · skip
                        refine pw_iload (aX12_worked 72 rfl) rfl ?_
                        refine pw_ite (pw_ifeq (tgt := 129) (aX12_worked 73 rfl) (by decide) (fun b42 => ?_) (fun b42 => ?_))
                        · skip
                          refine pw_lloadn (aX12_worked 76 rfl) rfl ?_
                          refine pw_lload (aX12_worked 77 rfl) rfl ?_
                          refine pw_l2i (aX12_worked 78 rfl) ?_
                          refine pw_lshl (aX12_worked 79 rfl) ?_
                          exact pw_lret (aX12_worked 80 rfl) hok
                        · skip
                          refine pw_lconst (v := (0 : Int64)) (aX12_worked 74 rfl) rfl ?_
                          refine pw_goto (tgt := 134) (aX12_worked 75 rfl) (by decide) ?_
                          exact pw_lret (aX12_worked 80 rfl) hok
                      · skip
                        refine pw_iloadn (aX12_worked 81 rfl) rfl ?_
                        refine pw_bipush (v := (37 : Int32)) (aX12_worked 82 rfl) rfl ?_
                        refine pw_ite (pw_icne (tgt := 156) (aX12_worked 83 rfl) (by decide) (fun b43 => ?_) (fun b43 => ?_))
                        · skip
                          refine pw_iload (aX12_worked 84 rfl) rfl ?_
                          refine pw_ite (pw_ifeq (tgt := 150) (aX12_worked 85 rfl) (by decide) (fun b44 => ?_) (fun b44 => ?_))
                          · skip
                            refine pw_lloadn (aX12_worked 88 rfl) rfl ?_
                            refine pw_lload (aX12_worked 89 rfl) rfl ?_
                            refine pw_l2i (aX12_worked 90 rfl) ?_
                            refine pw_lushr (aX12_worked 91 rfl) ?_
                            exact pw_lret (aX12_worked 92 rfl) hok
                          · skip
                            refine pw_lconst (v := (0 : Int64)) (aX12_worked 86 rfl) rfl ?_
                            refine pw_goto (tgt := 155) (aX12_worked 87 rfl) (by decide) ?_
                            exact pw_lret (aX12_worked 92 rfl) hok
                        · skip
                          refine pw_iloadn (aX12_worked 93 rfl) rfl ?_
                          refine pw_bipush (v := (38 : Int32)) (aX12_worked 94 rfl) rfl ?_
                          refine pw_ite (pw_icne (tgt := 189) (aX12_worked 95 rfl) (by decide) (fun b45 => ?_) (fun b45 => ?_))
                          · skip
                            refine pw_iload (aX12_worked 96 rfl) rfl ?_
                            refine pw_ite (pw_ifeq (tgt := 183) (aX12_worked 97 rfl) (by decide) (fun b46 => ?_) (fun b46 => ?_))
                            · skip
                              refine pw_lloadn (aX12_worked 106 rfl) rfl ?_
                              refine pw_lload (aX12_worked 107 rfl) rfl ?_
                              refine pw_l2i (aX12_worked 108 rfl) ?_
                              refine pw_lshr (aX12_worked 109 rfl) ?_
                              exact pw_lret (aX12_worked 110 rfl) hok
                            · skip
                              refine pw_lloadn (aX12_worked 98 rfl) rfl ?_
                              refine pw_lconst (v := (0 : Int64)) (aX12_worked 99 rfl) rfl ?_
                              refine pw_ite (pw_lcge (tgt := 179) (aX12_worked 100 rfl) (aX12_worked 101 rfl) (by decide) (fun b47 => ?_) (fun b47 => ?_))
                              · skip
                                refine pw_ldc2 (v := (-1 : Int64)) (aX12_worked 102 rfl) uk_RX12_226 ?_
                                refine pw_goto (tgt := 188) (aX12_worked 103 rfl) (by decide) ?_
                                exact pw_lret (aX12_worked 110 rfl) hok
                              · skip
                                refine pw_lconst (v := (0 : Int64)) (aX12_worked 104 rfl) rfl ?_
                                refine pw_goto (tgt := 188) (aX12_worked 105 rfl) (by decide) ?_
                                exact pw_lret (aX12_worked 110 rfl) hok
                          · skip
                            refine pw_iloadn (aX12_worked 111 rfl) rfl ?_
                            refine pw_bipush (v := (41 : Int32)) (aX12_worked 112 rfl) rfl ?_
                            refine pw_ite (pw_icne (tgt := 212) (aX12_worked 113 rfl) (by decide) (fun b48 => ?_) (fun b48 => ?_))
                            · skip
                              refine pw_lloadn (aX12_worked 114 rfl) rfl ?_
                              refine pw_lload (aX12_worked 115 rfl) rfl ?_
                              refine pw_ite (pw_lcne (tgt := 206) (aX12_worked 116 rfl) (aX12_worked 117 rfl) (by decide) (fun b49 => ?_) (fun b49 => ?_))
                              · skip
                                refine pw_iconst (v := (1 : Int32)) (aX12_worked 118 rfl) rfl ?_
                                refine pw_goto (tgt := 207) (aX12_worked 119 rfl) (by decide) ?_
                                refine pw_istore (L2 := [(7, .int ((1 : Int32))), (6, .int ((1 : Int32))), (0, .ref (base + 121)), (1, .int (a1)), (2, .long (a2)), (4, .long (a3))]) (aX12_worked 121 rfl) rfl ?_
                                refine pw_goto (tgt := 318) (aX12_worked 122 rfl) (by decide) ?_
                                refine pw_iload (aX12_worked 179 rfl) rfl ?_
                                refine pw_ite (pw_ifeq (tgt := 327) (aX12_worked 180 rfl) (by decide) (fun b50 => ?_) (fun b50 => ?_))
                                · skip
                                  refine pw_lconst (v := (0 : Int64)) (aX12_worked 183 rfl) rfl ?_
                                  exact pw_lret (aX12_worked 184 rfl) hok
                                · skip
                                  refine pw_lconst (v := (1 : Int64)) (aX12_worked 181 rfl) rfl ?_
                                  refine pw_goto (tgt := 328) (aX12_worked 182 rfl) (by decide) ?_
                                  exact pw_lret (aX12_worked 184 rfl) hok
                              · skip
                                refine pw_iconst (v := (0 : Int32)) (aX12_worked 120 rfl) rfl ?_
                                refine pw_istore (L2 := [(7, .int ((0 : Int32))), (6, .int ((1 : Int32))), (0, .ref (base + 121)), (1, .int (a1)), (2, .long (a2)), (4, .long (a3))]) (aX12_worked 121 rfl) rfl ?_
                                refine pw_goto (tgt := 318) (aX12_worked 122 rfl) (by decide) ?_
                                refine pw_iload (aX12_worked 179 rfl) rfl ?_
                                refine pw_ite (pw_ifeq (tgt := 327) (aX12_worked 180 rfl) (by decide) (fun b51 => ?_) (fun b51 => ?_))
                                · skip
                                  refine pw_lconst (v := (0 : Int64)) (aX12_worked 183 rfl) rfl ?_
                                  exact pw_lret (aX12_worked 184 rfl) hok
                                · skip
                                  refine pw_lconst (v := (1 : Int64)) (aX12_worked 181 rfl) rfl ?_
                                  refine pw_goto (tgt := 328) (aX12_worked 182 rfl) (by decide) ?_
                                  exact pw_lret (aX12_worked 184 rfl) hok
                            · skip
                              refine pw_iloadn (aX12_worked 123 rfl) rfl ?_
                              refine pw_bipush (v := (42 : Int32)) (aX12_worked 124 rfl) rfl ?_
                              refine pw_ite (pw_icne (tgt := 235) (aX12_worked 125 rfl) (by decide) (fun b52 => ?_) (fun b52 => ?_))
                              · skip
                                refine pw_lloadn (aX12_worked 126 rfl) rfl ?_
                                refine pw_lload (aX12_worked 127 rfl) rfl ?_
                                refine pw_ite (pw_lclt (tgt := 229) (aX12_worked 128 rfl) (aX12_worked 129 rfl) (by decide) (fun b53 => ?_) (fun b53 => ?_))
                                · skip
                                  refine pw_iconst (v := (0 : Int32)) (aX12_worked 132 rfl) rfl ?_
                                  refine pw_istore (L2 := [(7, .int ((0 : Int32))), (6, .int ((1 : Int32))), (0, .ref (base + 121)), (1, .int (a1)), (2, .long (a2)), (4, .long (a3))]) (aX12_worked 133 rfl) rfl ?_
                                  refine pw_goto (tgt := 318) (aX12_worked 134 rfl) (by decide) ?_
                                  refine pw_iload (aX12_worked 179 rfl) rfl ?_
                                  refine pw_ite (pw_ifeq (tgt := 327) (aX12_worked 180 rfl) (by decide) (fun b54 => ?_) (fun b54 => ?_))
                                  · skip
                                    refine pw_lconst (v := (0 : Int64)) (aX12_worked 183 rfl) rfl ?_
                                    exact pw_lret (aX12_worked 184 rfl) hok
                                  · skip
                                    refine pw_lconst (v := (1 : Int64)) (aX12_worked 181 rfl) rfl ?_
                                    refine pw_goto (tgt := 328) (aX12_worked 182 rfl) (by decide) ?_
                                    exact pw_lret (aX12_worked 184 rfl) hok
                                · skip
                                  refine pw_iconst (v := (1 : Int32)) (aX12_worked 130 rfl) rfl ?_
                                  refine pw_goto (tgt := 230) (aX12_worked 131 rfl) (by decide) ?_
                                  refine pw_istore (L2 := [(7, .int ((1 : Int32))), (6, .int ((1 : Int32))), (0, .ref (base + 121)), (1, .int (a1)), (2, .long (a2)), (4, .long (a3))]) (aX12_worked 133 rfl) rfl ?_
                                  refine pw_goto (tgt := 318) (aX12_worked 134 rfl) (by decide) ?_
                                  refine pw_iload (aX12_worked 179 rfl) rfl ?_
                                  refine pw_ite (pw_ifeq (tgt := 327) (aX12_worked 180 rfl) (by decide) (fun b55 => ?_) (fun b55 => ?_))
                                  · skip
                                    refine pw_lconst (v := (0 : Int64)) (aX12_worked 183 rfl) rfl ?_
                                    exact pw_lret (aX12_worked 184 rfl) hok
                                  · skip
                                    refine pw_lconst (v := (1 : Int64)) (aX12_worked 181 rfl) rfl ?_
                                    refine pw_goto (tgt := 328) (aX12_worked 182 rfl) (by decide) ?_
                                    exact pw_lret (aX12_worked 184 rfl) hok
                              · skip
                                refine pw_iloadn (aX12_worked 135 rfl) rfl ?_
                                refine pw_bipush (v := (43 : Int32)) (aX12_worked 136 rfl) rfl ?_
                                refine pw_ite (pw_icne (tgt := 258) (aX12_worked 137 rfl) (by decide) (fun b56 => ?_) (fun b56 => ?_))
                                · skip
                                  refine pw_lloadn (aX12_worked 138 rfl) rfl ?_
                                  refine pw_lload (aX12_worked 139 rfl) rfl ?_
                                  refine pw_ite (pw_lcle (tgt := 252) (aX12_worked 140 rfl) (aX12_worked 141 rfl) (by decide) (fun b57 => ?_) (fun b57 => ?_))
                                  · skip
                                    refine pw_iconst (v := (1 : Int32)) (aX12_worked 142 rfl) rfl ?_
                                    refine pw_goto (tgt := 253) (aX12_worked 143 rfl) (by decide) ?_
                                    refine pw_istore (L2 := [(7, .int ((1 : Int32))), (6, .int ((1 : Int32))), (0, .ref (base + 121)), (1, .int (a1)), (2, .long (a2)), (4, .long (a3))]) (aX12_worked 145 rfl) rfl ?_
                                    refine pw_goto (tgt := 318) (aX12_worked 146 rfl) (by decide) ?_
                                    refine pw_iload (aX12_worked 179 rfl) rfl ?_
                                    refine pw_ite (pw_ifeq (tgt := 327) (aX12_worked 180 rfl) (by decide) (fun b58 => ?_) (fun b58 => ?_))
                                    · skip
                                      refine pw_lconst (v := (0 : Int64)) (aX12_worked 183 rfl) rfl ?_
                                      exact pw_lret (aX12_worked 184 rfl) hok
                                    · skip
                                      refine pw_lconst (v := (1 : Int64)) (aX12_worked 181 rfl) rfl ?_
                                      refine pw_goto (tgt := 328) (aX12_worked 182 rfl) (by decide) ?_
                                      exact pw_lret (aX12_worked 184 rfl) hok
                                  · skip
                                    refine pw_iconst (v := (0 : Int32)) (aX12_worked 144 rfl) rfl ?_
                                    refine pw_istore (L2 := [(7, .int ((0 : Int32))), (6, .int ((1 : Int32))), (0, .ref (base + 121)), (1, .int (a1)), (2, .long (a2)), (4, .long (a3))]) (aX12_worked 145 rfl) rfl ?_
                                    refine pw_goto (tgt := 318) (aX12_worked 146 rfl) (by decide) ?_
                                    refine pw_iload (aX12_worked 179 rfl) rfl ?_
                                    refine pw_ite (pw_ifeq (tgt := 327) (aX12_worked 180 rfl) (by decide) (fun b59 => ?_) (fun b59 => ?_))
                                    · skip
                                      refine pw_lconst (v := (0 : Int64)) (aX12_worked 183 rfl) rfl ?_
                                      exact pw_lret (aX12_worked 184 rfl) hok
                                    · skip
                                      refine pw_lconst (v := (1 : Int64)) (aX12_worked 181 rfl) rfl ?_
                                      refine pw_goto (tgt := 328) (aX12_worked 182 rfl) (by decide) ?_
                                      exact pw_lret (aX12_worked 184 rfl) hok
                                · skip
                                  refine pw_iloadn (aX12_worked 147 rfl) rfl ?_
                                  refine pw_bipush (v := (44 : Int32)) (aX12_worked 148 rfl) rfl ?_
                                  refine pw_ite (pw_icne (tgt := 281) (aX12_worked 149 rfl) (by decide) (fun b60 => ?_) (fun b60 => ?_))
                                  · skip
                                    refine pw_lloadn (aX12_worked 150 rfl) rfl ?_
                                    refine pw_lload (aX12_worked 151 rfl) rfl ?_
                                    refine pw_ite (pw_lcgt (tgt := 275) (aX12_worked 152 rfl) (aX12_worked 153 rfl) (by decide) (fun b61 => ?_) (fun b61 => ?_))
                                    · skip
                                      refine pw_iconst (v := (0 : Int32)) (aX12_worked 156 rfl) rfl ?_
                                      refine pw_istore (L2 := [(7, .int ((0 : Int32))), (6, .int ((1 : Int32))), (0, .ref (base + 121)), (1, .int (a1)), (2, .long (a2)), (4, .long (a3))]) (aX12_worked 157 rfl) rfl ?_
                                      refine pw_goto (tgt := 318) (aX12_worked 158 rfl) (by decide) ?_
                                      refine pw_iload (aX12_worked 179 rfl) rfl ?_
                                      refine pw_ite (pw_ifeq (tgt := 327) (aX12_worked 180 rfl) (by decide) (fun b62 => ?_) (fun b62 => ?_))
                                      · skip
                                        refine pw_lconst (v := (0 : Int64)) (aX12_worked 183 rfl) rfl ?_
                                        exact pw_lret (aX12_worked 184 rfl) hok
                                      · skip
                                        refine pw_lconst (v := (1 : Int64)) (aX12_worked 181 rfl) rfl ?_
                                        refine pw_goto (tgt := 328) (aX12_worked 182 rfl) (by decide) ?_
                                        exact pw_lret (aX12_worked 184 rfl) hok
                                    · skip
                                      refine pw_iconst (v := (1 : Int32)) (aX12_worked 154 rfl) rfl ?_
                                      refine pw_goto (tgt := 276) (aX12_worked 155 rfl) (by decide) ?_
                                      refine pw_istore (L2 := [(7, .int ((1 : Int32))), (6, .int ((1 : Int32))), (0, .ref (base + 121)), (1, .int (a1)), (2, .long (a2)), (4, .long (a3))]) (aX12_worked 157 rfl) rfl ?_
                                      refine pw_goto (tgt := 318) (aX12_worked 158 rfl) (by decide) ?_
                                      refine pw_iload (aX12_worked 179 rfl) rfl ?_
                                      refine pw_ite (pw_ifeq (tgt := 327) (aX12_worked 180 rfl) (by decide) (fun b63 => ?_) (fun b63 => ?_))
                                      · skip
                                        refine pw_lconst (v := (0 : Int64)) (aX12_worked 183 rfl) rfl ?_
                                        exact pw_lret (aX12_worked 184 rfl) hok
                                      · skip
                                        refine pw_lconst (v := (1 : Int64)) (aX12_worked 181 rfl) rfl ?_
                                        refine pw_goto (tgt := 328) (aX12_worked 182 rfl) (by decide) ?_
                                        exact pw_lret (aX12_worked 184 rfl) hok
                                  · skip
                                    refine pw_iloadn (aX12_worked 159 rfl) rfl ?_
                                    refine pw_bipush (v := (45 : Int32)) (aX12_worked 160 rfl) rfl ?_
                                    refine pw_ite (pw_icne (tgt := 304) (aX12_worked 161 rfl) (by decide) (fun b64 => ?_) (fun b64 => ?_))
                                    · skip
                                      refine pw_lloadn (aX12_worked 162 rfl) rfl ?_
                                      refine pw_lload (aX12_worked 163 rfl) rfl ?_
                                      refine pw_ite (pw_lcge (tgt := 298) (aX12_worked 164 rfl) (aX12_worked 165 rfl) (by decide) (fun b65 => ?_) (fun b65 => ?_))
                                      · skip
                                        refine pw_iconst (v := (1 : Int32)) (aX12_worked 166 rfl) rfl ?_
                                        refine pw_goto (tgt := 299) (aX12_worked 167 rfl) (by decide) ?_
                                        refine pw_istore (L2 := [(7, .int ((1 : Int32))), (6, .int ((1 : Int32))), (0, .ref (base + 121)), (1, .int (a1)), (2, .long (a2)), (4, .long (a3))]) (aX12_worked 169 rfl) rfl ?_
                                        refine pw_goto (tgt := 318) (aX12_worked 170 rfl) (by decide) ?_
                                        refine pw_iload (aX12_worked 179 rfl) rfl ?_
                                        refine pw_ite (pw_ifeq (tgt := 327) (aX12_worked 180 rfl) (by decide) (fun b66 => ?_) (fun b66 => ?_))
                                        · skip
                                          refine pw_lconst (v := (0 : Int64)) (aX12_worked 183 rfl) rfl ?_
                                          exact pw_lret (aX12_worked 184 rfl) hok
                                        · skip
                                          refine pw_lconst (v := (1 : Int64)) (aX12_worked 181 rfl) rfl ?_
                                          refine pw_goto (tgt := 328) (aX12_worked 182 rfl) (by decide) ?_
                                          exact pw_lret (aX12_worked 184 rfl) hok
                                      · skip
                                        refine pw_iconst (v := (0 : Int32)) (aX12_worked 168 rfl) rfl ?_
                                        refine pw_istore (L2 := [(7, .int ((0 : Int32))), (6, .int ((1 : Int32))), (0, .ref (base + 121)), (1, .int (a1)), (2, .long (a2)), (4, .long (a3))]) (aX12_worked 169 rfl) rfl ?_
                                        refine pw_goto (tgt := 318) (aX12_worked 170 rfl) (by decide) ?_
                                        refine pw_iload (aX12_worked 179 rfl) rfl ?_
                                        refine pw_ite (pw_ifeq (tgt := 327) (aX12_worked 180 rfl) (by decide) (fun b67 => ?_) (fun b67 => ?_))
                                        · skip
                                          refine pw_lconst (v := (0 : Int64)) (aX12_worked 183 rfl) rfl ?_
                                          exact pw_lret (aX12_worked 184 rfl) hok
                                        · skip
                                          refine pw_lconst (v := (1 : Int64)) (aX12_worked 181 rfl) rfl ?_
                                          refine pw_goto (tgt := 328) (aX12_worked 182 rfl) (by decide) ?_
                                          exact pw_lret (aX12_worked 184 rfl) hok
                                    · skip
                                      refine pw_lloadn (aX12_worked 171 rfl) rfl ?_
                                      refine pw_lload (aX12_worked 172 rfl) rfl ?_
                                      refine pw_ite (pw_lceq (tgt := 315) (aX12_worked 173 rfl) (aX12_worked 174 rfl) (by decide) (fun b68 => ?_) (fun b68 => ?_))
                                      · skip
                                        refine pw_iconst (v := (0 : Int32)) (aX12_worked 177 rfl) rfl ?_
                                        refine pw_istore (L2 := [(7, .int ((0 : Int32))), (6, .int ((1 : Int32))), (0, .ref (base + 121)), (1, .int (a1)), (2, .long (a2)), (4, .long (a3))]) (aX12_worked 178 rfl) rfl ?_
                                        refine pw_iload (aX12_worked 179 rfl) rfl ?_
                                        refine pw_ite (pw_ifeq (tgt := 327) (aX12_worked 180 rfl) (by decide) (fun b69 => ?_) (fun b69 => ?_))
                                        · skip
                                          refine pw_lconst (v := (0 : Int64)) (aX12_worked 183 rfl) rfl ?_
                                          exact pw_lret (aX12_worked 184 rfl) hok
                                        · skip
                                          refine pw_lconst (v := (1 : Int64)) (aX12_worked 181 rfl) rfl ?_
                                          refine pw_goto (tgt := 328) (aX12_worked 182 rfl) (by decide) ?_
                                          exact pw_lret (aX12_worked 184 rfl) hok
                                      · skip
                                        refine pw_iconst (v := (1 : Int32)) (aX12_worked 175 rfl) rfl ?_
                                        refine pw_goto (tgt := 316) (aX12_worked 176 rfl) (by decide) ?_
                                        refine pw_istore (L2 := [(7, .int ((1 : Int32))), (6, .int ((1 : Int32))), (0, .ref (base + 121)), (1, .int (a1)), (2, .long (a2)), (4, .long (a3))]) (aX12_worked 178 rfl) rfl ?_
                                        refine pw_iload (aX12_worked 179 rfl) rfl ?_
                                        refine pw_ite (pw_ifeq (tgt := 327) (aX12_worked 180 rfl) (by decide) (fun b70 => ?_) (fun b70 => ?_))
                                        · skip
                                          refine pw_lconst (v := (0 : Int64)) (aX12_worked 183 rfl) rfl ?_
                                          exact pw_lret (aX12_worked 184 rfl) hok
                                        · skip
                                          refine pw_lconst (v := (1 : Int64)) (aX12_worked 181 rfl) rfl ?_
                                          refine pw_goto (tgt := 328) (aX12_worked 182 rfl) (by decide) ?_
                                          exact pw_lret (aX12_worked 184 rfl) hok
                    · skip
                      refine pw_iconst (v := (0 : Int32)) (aX12_worked 67 rfl) rfl ?_
                      refine pw_istore (L2 := [(6, .int ((0 : Int32))), (0, .ref (base + 121)), (1, .int (a1)), (2, .long (a2)), (4, .long (a3))]) (aX12_worked 68 rfl) rfl ?_
                      refine pw_iloadn (aX12_worked 69 rfl) rfl ?_
                      refine pw_bipush (v := (36 : Int32)) (aX12_worked 70 rfl) rfl ?_
                      refine pw_ite (pw_icne (tgt := 135) (aX12_worked 71 rfl) (by decide) (fun b71 => ?_) (fun b71 => ?_))
                      · skip
                        refine pw_iload (aX12_worked 72 rfl) rfl ?_
                        refine pw_ite (pw_ifeq (tgt := 129) (aX12_worked 73 rfl) (by decide) (fun b72 => ?_) (fun b72 => ?_))
                        · skip
                          refine pw_lloadn (aX12_worked 76 rfl) rfl ?_
                          refine pw_lload (aX12_worked 77 rfl) rfl ?_
                          refine pw_l2i (aX12_worked 78 rfl) ?_
                          refine pw_lshl (aX12_worked 79 rfl) ?_
                          exact pw_lret (aX12_worked 80 rfl) hok
                        · skip
                          refine pw_lconst (v := (0 : Int64)) (aX12_worked 74 rfl) rfl ?_
                          refine pw_goto (tgt := 134) (aX12_worked 75 rfl) (by decide) ?_
                          exact pw_lret (aX12_worked 80 rfl) hok
                      · skip
                        refine pw_iloadn (aX12_worked 81 rfl) rfl ?_
                        refine pw_bipush (v := (37 : Int32)) (aX12_worked 82 rfl) rfl ?_
                        refine pw_ite (pw_icne (tgt := 156) (aX12_worked 83 rfl) (by decide) (fun b73 => ?_) (fun b73 => ?_))
                        · skip
                          refine pw_iload (aX12_worked 84 rfl) rfl ?_
                          refine pw_ite (pw_ifeq (tgt := 150) (aX12_worked 85 rfl) (by decide) (fun b74 => ?_) (fun b74 => ?_))
                          · skip
                            refine pw_lloadn (aX12_worked 88 rfl) rfl ?_
                            refine pw_lload (aX12_worked 89 rfl) rfl ?_
                            refine pw_l2i (aX12_worked 90 rfl) ?_
                            refine pw_lushr (aX12_worked 91 rfl) ?_
                            exact pw_lret (aX12_worked 92 rfl) hok
                          · skip
                            refine pw_lconst (v := (0 : Int64)) (aX12_worked 86 rfl) rfl ?_
                            refine pw_goto (tgt := 155) (aX12_worked 87 rfl) (by decide) ?_
                            exact pw_lret (aX12_worked 92 rfl) hok
                        · skip
                          refine pw_iloadn (aX12_worked 93 rfl) rfl ?_
                          refine pw_bipush (v := (38 : Int32)) (aX12_worked 94 rfl) rfl ?_
                          refine pw_ite (pw_icne (tgt := 189) (aX12_worked 95 rfl) (by decide) (fun b75 => ?_) (fun b75 => ?_))
                          · skip
                            refine pw_iload (aX12_worked 96 rfl) rfl ?_
                            refine pw_ite (pw_ifeq (tgt := 183) (aX12_worked 97 rfl) (by decide) (fun b76 => ?_) (fun b76 => ?_))
                            · skip
                              refine pw_lloadn (aX12_worked 106 rfl) rfl ?_
                              refine pw_lload (aX12_worked 107 rfl) rfl ?_
                              refine pw_l2i (aX12_worked 108 rfl) ?_
                              refine pw_lshr (aX12_worked 109 rfl) ?_
                              exact pw_lret (aX12_worked 110 rfl) hok
                            · skip
                              refine pw_lloadn (aX12_worked 98 rfl) rfl ?_
                              refine pw_lconst (v := (0 : Int64)) (aX12_worked 99 rfl) rfl ?_
                              refine pw_ite (pw_lcge (tgt := 179) (aX12_worked 100 rfl) (aX12_worked 101 rfl) (by decide) (fun b77 => ?_) (fun b77 => ?_))
                              · skip
                                refine pw_ldc2 (v := (-1 : Int64)) (aX12_worked 102 rfl) uk_RX12_226 ?_
                                refine pw_goto (tgt := 188) (aX12_worked 103 rfl) (by decide) ?_
                                exact pw_lret (aX12_worked 110 rfl) hok
                              · skip
                                refine pw_lconst (v := (0 : Int64)) (aX12_worked 104 rfl) rfl ?_
                                refine pw_goto (tgt := 188) (aX12_worked 105 rfl) (by decide) ?_
                                exact pw_lret (aX12_worked 110 rfl) hok
                          · skip
                            refine pw_iloadn (aX12_worked 111 rfl) rfl ?_
                            refine pw_bipush (v := (41 : Int32)) (aX12_worked 112 rfl) rfl ?_
                            refine pw_ite (pw_icne (tgt := 212) (aX12_worked 113 rfl) (by decide) (fun b78 => ?_) (fun b78 => ?_))
                            · skip
                              refine pw_lloadn (aX12_worked 114 rfl) rfl ?_
                              refine pw_lload (aX12_worked 115 rfl) rfl ?_
                              refine pw_ite (pw_lcne (tgt := 206) (aX12_worked 116 rfl) (aX12_worked 117 rfl) (by decide) (fun b79 => ?_) (fun b79 => ?_))
                              · skip
                                refine pw_iconst (v := (1 : Int32)) (aX12_worked 118 rfl) rfl ?_
                                refine pw_goto (tgt := 207) (aX12_worked 119 rfl) (by decide) ?_
                                refine pw_istore (L2 := [(7, .int ((1 : Int32))), (6, .int ((0 : Int32))), (0, .ref (base + 121)), (1, .int (a1)), (2, .long (a2)), (4, .long (a3))]) (aX12_worked 121 rfl) rfl ?_
                                refine pw_goto (tgt := 318) (aX12_worked 122 rfl) (by decide) ?_
                                refine pw_iload (aX12_worked 179 rfl) rfl ?_
                                refine pw_ite (pw_ifeq (tgt := 327) (aX12_worked 180 rfl) (by decide) (fun b80 => ?_) (fun b80 => ?_))
                                · skip
                                  refine pw_lconst (v := (0 : Int64)) (aX12_worked 183 rfl) rfl ?_
                                  exact pw_lret (aX12_worked 184 rfl) hok
                                · skip
                                  refine pw_lconst (v := (1 : Int64)) (aX12_worked 181 rfl) rfl ?_
                                  refine pw_goto (tgt := 328) (aX12_worked 182 rfl) (by decide) ?_
                                  exact pw_lret (aX12_worked 184 rfl) hok
                              · skip
                                refine pw_iconst (v := (0 : Int32)) (aX12_worked 120 rfl) rfl ?_
                                refine pw_istore (L2 := [(7, .int ((0 : Int32))), (6, .int ((0 : Int32))), (0, .ref (base + 121)), (1, .int (a1)), (2, .long (a2)), (4, .long (a3))]) (aX12_worked 121 rfl) rfl ?_
                                refine pw_goto (tgt := 318) (aX12_worked 122 rfl) (by decide) ?_
                                refine pw_iload (aX12_worked 179 rfl) rfl ?_
                                refine pw_ite (pw_ifeq (tgt := 327) (aX12_worked 180 rfl) (by decide) (fun b81 => ?_) (fun b81 => ?_))
                                · skip
                                  refine pw_lconst (v := (0 : Int64)) (aX12_worked 183 rfl) rfl ?_
                                  exact pw_lret (aX12_worked 184 rfl) hok
                                · skip
                                  refine pw_lconst (v := (1 : Int64)) (aX12_worked 181 rfl) rfl ?_
                                  refine pw_goto (tgt := 328) (aX12_worked 182 rfl) (by decide) ?_
                                  exact pw_lret (aX12_worked 184 rfl) hok
                            · skip
                              refine pw_iloadn (aX12_worked 123 rfl) rfl ?_
                              refine pw_bipush (v := (42 : Int32)) (aX12_worked 124 rfl) rfl ?_
                              refine pw_ite (pw_icne (tgt := 235) (aX12_worked 125 rfl) (by decide) (fun b82 => ?_) (fun b82 => ?_))
                              · skip
                                refine pw_lloadn (aX12_worked 126 rfl) rfl ?_
                                refine pw_lload (aX12_worked 127 rfl) rfl ?_
                                refine pw_ite (pw_lclt (tgt := 229) (aX12_worked 128 rfl) (aX12_worked 129 rfl) (by decide) (fun b83 => ?_) (fun b83 => ?_))
                                · skip
                                  refine pw_iconst (v := (0 : Int32)) (aX12_worked 132 rfl) rfl ?_
                                  refine pw_istore (L2 := [(7, .int ((0 : Int32))), (6, .int ((0 : Int32))), (0, .ref (base + 121)), (1, .int (a1)), (2, .long (a2)), (4, .long (a3))]) (aX12_worked 133 rfl) rfl ?_
                                  refine pw_goto (tgt := 318) (aX12_worked 134 rfl) (by decide) ?_
                                  refine pw_iload (aX12_worked 179 rfl) rfl ?_
                                  refine pw_ite (pw_ifeq (tgt := 327) (aX12_worked 180 rfl) (by decide) (fun b84 => ?_) (fun b84 => ?_))
                                  · skip
                                    refine pw_lconst (v := (0 : Int64)) (aX12_worked 183 rfl) rfl ?_
                                    exact pw_lret (aX12_worked 184 rfl) hok
                                  · skip
                                    refine pw_lconst (v := (1 : Int64)) (aX12_worked 181 rfl) rfl ?_
                                    refine pw_goto (tgt := 328) (aX12_worked 182 rfl) (by decide) ?_
                                    exact pw_lret (aX12_worked 184 rfl) hok
                                · skip
                                  refine pw_iconst (v := (1 : Int32)) (aX12_worked 130 rfl) rfl ?_
                                  refine pw_goto (tgt := 230) (aX12_worked 131 rfl) (by decide) ?_
                                  refine pw_istore (L2 := [(7, .int ((1 : Int32))), (6, .int ((0 : Int32))), (0, .ref (base + 121)), (1, .int (a1)), (2, .long (a2)), (4, .long (a3))]) (aX12_worked 133 rfl) rfl ?_
                                  refine pw_goto (tgt := 318) (aX12_worked 134 rfl) (by decide) ?_
                                  refine pw_iload (aX12_worked 179 rfl) rfl ?_
                                  refine pw_ite (pw_ifeq (tgt := 327) (aX12_worked 180 rfl) (by decide) (fun b85 => ?_) (fun b85 => ?_))
                                  · skip
                                    refine pw_lconst (v := (0 : Int64)) (aX12_worked 183 rfl) rfl ?_
                                    exact pw_lret (aX12_worked 184 rfl) hok
                                  · skip
                                    refine pw_lconst (v := (1 : Int64)) (aX12_worked 181 rfl) rfl ?_
                                    refine pw_goto (tgt := 328) (aX12_worked 182 rfl) (by decide) ?_
                                    exact pw_lret (aX12_worked 184 rfl) hok
                              · skip
                                refine pw_iloadn (aX12_worked 135 rfl) rfl ?_
                                refine pw_bipush (v := (43 : Int32)) (aX12_worked 136 rfl) rfl ?_
                                refine pw_ite (pw_icne (tgt := 258) (aX12_worked 137 rfl) (by decide) (fun b86 => ?_) (fun b86 => ?_))
                                · skip
                                  refine pw_lloadn (aX12_worked 138 rfl) rfl ?_
                                  refine pw_lload (aX12_worked 139 rfl) rfl ?_
                                  refine pw_ite (pw_lcle (tgt := 252) (aX12_worked 140 rfl) (aX12_worked 141 rfl) (by decide) (fun b87 => ?_) (fun b87 => ?_))
                                  · skip
                                    refine pw_iconst (v := (1 : Int32)) (aX12_worked 142 rfl) rfl ?_
                                    refine pw_goto (tgt := 253) (aX12_worked 143 rfl) (by decide) ?_
                                    refine pw_istore (L2 := [(7, .int ((1 : Int32))), (6, .int ((0 : Int32))), (0, .ref (base + 121)), (1, .int (a1)), (2, .long (a2)), (4, .long (a3))]) (aX12_worked 145 rfl) rfl ?_
                                    refine pw_goto (tgt := 318) (aX12_worked 146 rfl) (by decide) ?_
                                    refine pw_iload (aX12_worked 179 rfl) rfl ?_
                                    refine pw_ite (pw_ifeq (tgt := 327) (aX12_worked 180 rfl) (by decide) (fun b88 => ?_) (fun b88 => ?_))
                                    · skip
                                      refine pw_lconst (v := (0 : Int64)) (aX12_worked 183 rfl) rfl ?_
                                      exact pw_lret (aX12_worked 184 rfl) hok
                                    · skip
                                      refine pw_lconst (v := (1 : Int64)) (aX12_worked 181 rfl) rfl ?_
                                      refine pw_goto (tgt := 328) (aX12_worked 182 rfl) (by decide) ?_
                                      exact pw_lret (aX12_worked 184 rfl) hok
                                  · skip
                                    refine pw_iconst (v := (0 : Int32)) (aX12_worked 144 rfl) rfl ?_
                                    refine pw_istore (L2 := [(7, .int ((0 : Int32))), (6, .int ((0 : Int32))), (0, .ref (base + 121)), (1, .int (a1)), (2, .long (a2)), (4, .long (a3))]) (aX12_worked 145 rfl) rfl ?_
                                    refine pw_goto (tgt := 318) (aX12_worked 146 rfl) (by decide) ?_
                                    refine pw_iload (aX12_worked 179 rfl) rfl ?_
                                    refine pw_ite (pw_ifeq (tgt := 327) (aX12_worked 180 rfl) (by decide) (fun b89 => ?_) (fun b89 => ?_))
                                    · skip
                                      refine pw_lconst (v := (0 : Int64)) (aX12_worked 183 rfl) rfl ?_
                                      exact pw_lret (aX12_worked 184 rfl) hok
                                    · skip
                                      refine pw_lconst (v := (1 : Int64)) (aX12_worked 181 rfl) rfl ?_
                                      refine pw_goto (tgt := 328) (aX12_worked 182 rfl) (by decide) ?_
                                      exact pw_lret (aX12_worked 184 rfl) hok
                                · skip
                                  refine pw_iloadn (aX12_worked 147 rfl) rfl ?_
                                  refine pw_bipush (v := (44 : Int32)) (aX12_worked 148 rfl) rfl ?_
                                  refine pw_ite (pw_icne (tgt := 281) (aX12_worked 149 rfl) (by decide) (fun b90 => ?_) (fun b90 => ?_))
                                  · skip
                                    refine pw_lloadn (aX12_worked 150 rfl) rfl ?_
                                    refine pw_lload (aX12_worked 151 rfl) rfl ?_
                                    refine pw_ite (pw_lcgt (tgt := 275) (aX12_worked 152 rfl) (aX12_worked 153 rfl) (by decide) (fun b91 => ?_) (fun b91 => ?_))
                                    · skip
                                      refine pw_iconst (v := (0 : Int32)) (aX12_worked 156 rfl) rfl ?_
                                      refine pw_istore (L2 := [(7, .int ((0 : Int32))), (6, .int ((0 : Int32))), (0, .ref (base + 121)), (1, .int (a1)), (2, .long (a2)), (4, .long (a3))]) (aX12_worked 157 rfl) rfl ?_
                                      refine pw_goto (tgt := 318) (aX12_worked 158 rfl) (by decide) ?_
                                      refine pw_iload (aX12_worked 179 rfl) rfl ?_
                                      refine pw_ite (pw_ifeq (tgt := 327) (aX12_worked 180 rfl) (by decide) (fun b92 => ?_) (fun b92 => ?_))
                                      · skip
                                        refine pw_lconst (v := (0 : Int64)) (aX12_worked 183 rfl) rfl ?_
                                        exact pw_lret (aX12_worked 184 rfl) hok
                                      · skip
                                        refine pw_lconst (v := (1 : Int64)) (aX12_worked 181 rfl) rfl ?_
                                        refine pw_goto (tgt := 328) (aX12_worked 182 rfl) (by decide) ?_
                                        exact pw_lret (aX12_worked 184 rfl) hok
                                    · skip
                                      refine pw_iconst (v := (1 : Int32)) (aX12_worked 154 rfl) rfl ?_
                                      refine pw_goto (tgt := 276) (aX12_worked 155 rfl) (by decide) ?_
                                      refine pw_istore (L2 := [(7, .int ((1 : Int32))), (6, .int ((0 : Int32))), (0, .ref (base + 121)), (1, .int (a1)), (2, .long (a2)), (4, .long (a3))]) (aX12_worked 157 rfl) rfl ?_
                                      refine pw_goto (tgt := 318) (aX12_worked 158 rfl) (by decide) ?_
                                      refine pw_iload (aX12_worked 179 rfl) rfl ?_
                                      refine pw_ite (pw_ifeq (tgt := 327) (aX12_worked 180 rfl) (by decide) (fun b93 => ?_) (fun b93 => ?_))
                                      · skip
                                        refine pw_lconst (v := (0 : Int64)) (aX12_worked 183 rfl) rfl ?_
                                        exact pw_lret (aX12_worked 184 rfl) hok
                                      · skip
                                        refine pw_lconst (v := (1 : Int64)) (aX12_worked 181 rfl) rfl ?_
                                        refine pw_goto (tgt := 328) (aX12_worked 182 rfl) (by decide) ?_
                                        exact pw_lret (aX12_worked 184 rfl) hok
                                  · skip
                                    refine pw_iloadn (aX12_worked 159 rfl) rfl ?_
                                    refine pw_bipush (v := (45 : Int32)) (aX12_worked 160 rfl) rfl ?_
                                    refine pw_ite (pw_icne (tgt := 304) (aX12_worked 161 rfl) (by decide) (fun b94 => ?_) (fun b94 => ?_))
                                    · skip
                                      refine pw_lloadn (aX12_worked 162 rfl) rfl ?_
                                      refine pw_lload (aX12_worked 163 rfl) rfl ?_
                                      refine pw_ite (pw_lcge (tgt := 298) (aX12_worked 164 rfl) (aX12_worked 165 rfl) (by decide) (fun b95 => ?_) (fun b95 => ?_))
                                      · skip
                                        refine pw_iconst (v := (1 : Int32)) (aX12_worked 166 rfl) rfl ?_
                                        refine pw_goto (tgt := 299) (aX12_worked 167 rfl) (by decide) ?_
                                        refine pw_istore (L2 := [(7, .int ((1 : Int32))), (6, .int ((0 : Int32))), (0, .ref (base + 121)), (1, .int (a1)), (2, .long (a2)), (4, .long (a3))]) (aX12_worked 169 rfl) rfl ?_
                                        refine pw_goto (tgt := 318) (aX12_worked 170 rfl) (by decide) ?_
                                        refine pw_iload (aX12_worked 179 rfl) rfl ?_
                                        refine pw_ite (pw_ifeq (tgt := 327) (aX12_worked 180 rfl) (by decide) (fun b96 => ?_) (fun b96 => ?_))
                                        · skip
                                          refine pw_lconst (v := (0 : Int64)) (aX12_worked 183 rfl) rfl ?_
                                          exact pw_lret (aX12_worked 184 rfl) hok
                                        · skip
                                          refine pw_lconst (v := (1 : Int64)) (aX12_worked 181 rfl) rfl ?_
                                          refine pw_goto (tgt := 328) (aX12_worked 182 rfl) (by decide) ?_
                                          exact pw_lret (aX12_worked 184 rfl) hok
                                      · skip
                                        refine pw_iconst (v := (0 : Int32)) (aX12_worked 168 rfl) rfl ?_
                                        refine pw_istore (L2 := [(7, .int ((0 : Int32))), (6, .int ((0 : Int32))), (0, .ref (base + 121)), (1, .int (a1)), (2, .long (a2)), (4, .long (a3))]) (aX12_worked 169 rfl) rfl ?_
                                        refine pw_goto (tgt := 318) (aX12_worked 170 rfl) (by decide) ?_
                                        refine pw_iload (aX12_worked 179 rfl) rfl ?_
                                        refine pw_ite (pw_ifeq (tgt := 327) (aX12_worked 180 rfl) (by decide) (fun b97 => ?_) (fun b97 => ?_))
                                        · skip
                                          refine pw_lconst (v := (0 : Int64)) (aX12_worked 183 rfl) rfl ?_
                                          exact pw_lret (aX12_worked 184 rfl) hok
                                        · skip
                                          refine pw_lconst (v := (1 : Int64)) (aX12_worked 181 rfl) rfl ?_
                                          refine pw_goto (tgt := 328) (aX12_worked 182 rfl) (by decide) ?_
                                          exact pw_lret (aX12_worked 184 rfl) hok
                                    · skip
                                      refine pw_lloadn (aX12_worked 171 rfl) rfl ?_
                                      refine pw_lload (aX12_worked 172 rfl) rfl ?_
                                      refine pw_ite (pw_lceq (tgt := 315) (aX12_worked 173 rfl) (aX12_worked 174 rfl) (by decide) (fun b98 => ?_) (fun b98 => ?_))
                                      · skip
                                        refine pw_iconst (v := (0 : Int32)) (aX12_worked 177 rfl) rfl ?_
                                        refine pw_istore (L2 := [(7, .int ((0 : Int32))), (6, .int ((0 : Int32))), (0, .ref (base + 121)), (1, .int (a1)), (2, .long (a2)), (4, .long (a3))]) (aX12_worked 178 rfl) rfl ?_
                                        refine pw_iload (aX12_worked 179 rfl) rfl ?_
                                        refine pw_ite (pw_ifeq (tgt := 327) (aX12_worked 180 rfl) (by decide) (fun b99 => ?_) (fun b99 => ?_))
                                        · skip
                                          refine pw_lconst (v := (0 : Int64)) (aX12_worked 183 rfl) rfl ?_
                                          exact pw_lret (aX12_worked 184 rfl) hok
                                        · skip
                                          refine pw_lconst (v := (1 : Int64)) (aX12_worked 181 rfl) rfl ?_
                                          refine pw_goto (tgt := 328) (aX12_worked 182 rfl) (by decide) ?_
                                          exact pw_lret (aX12_worked 184 rfl) hok
                                      · skip
                                        refine pw_iconst (v := (1 : Int32)) (aX12_worked 175 rfl) rfl ?_
                                        refine pw_goto (tgt := 316) (aX12_worked 176 rfl) (by decide) ?_
                                        refine pw_istore (L2 := [(7, .int ((1 : Int32))), (6, .int ((0 : Int32))), (0, .ref (base + 121)), (1, .int (a1)), (2, .long (a2)), (4, .long (a3))]) (aX12_worked 178 rfl) rfl ?_
                                        refine pw_iload (aX12_worked 179 rfl) rfl ?_
                                        refine pw_ite (pw_ifeq (tgt := 327) (aX12_worked 180 rfl) (by decide) (fun b100 => ?_) (fun b100 => ?_))
                                        · skip
                                          refine pw_lconst (v := (0 : Int64)) (aX12_worked 183 rfl) rfl ?_
                                          exact pw_lret (aX12_worked 184 rfl) hok
                                        · skip
                                          refine pw_lconst (v := (1 : Int64)) (aX12_worked 181 rfl) rfl ?_
                                          refine pw_goto (tgt := 328) (aX12_worked 182 rfl) (by decide) ?_
                                          exact pw_lret (aX12_worked 184 rfl) hok
set_option maxHeartbeats 4000000 in
set_option maxRecDepth 100000 in
theorem rX12_isBase {sk : xK} {base N d : Nat} (hkb : x_kb sk base)  (n sl : Nat) (SH : Nat → Nat × Nat) (FI : Nat → Nat → Int32) (FL : Nat → Nat → Int64) (FR : Nat → Nat → Option Nat) (hok : pk n SH FR)  : pw pj_I sk base N d none 177 0 [(0, .ref (base + 121))] [] (n, sl, SH, FI, FL, FR) (RX12_isBase  n sl SH FI FL FR) := by
  unfold RX12_isBase
  refine pw_aloadn (aX12_isBase 0 rfl) rfl ?_
  refine pw_getr (v := .ref (base + 129)) (aX12_isBase 1 rfl) uf_RX12_39 un_RX12_39 (congrArg (fun r => va_rf (h_rf base r)) (q121_16 (hok).2.1)) ?_
  refine pw_iconst (v := (1 : Int32)) (aX12_isBase 2 rfl) rfl ?_
  refine pw_ialdr (c := 129) (ix := 1) (aX12_isBase 3 rfl) rfl (fun _ => ?_)
  refine pw_ifle (tgt := 11) (aX12_isBase 4 rfl) (by decide) (fun b0 => ?_) (fun b0 => ?_)
  · skip
    refine pw_iconst (v := (0 : Int32)) (aX12_isBase 5 rfl) rfl ?_
    exact pw_iret (aX12_isBase 6 rfl) hok
  · skip
    refine pw_aloadn (aX12_isBase 7 rfl) rfl ?_
    refine pw_getr (v := .ref (base + 136)) (aX12_isBase 8 rfl) uf_RX12_60 un_RX12_60 (congrArg (fun r => va_rf (h_rf base r)) (q121_23 (hok).2.1)) ?_
    refine pw_iconst (v := (1 : Int32)) (aX12_isBase 9 rfl) rfl ?_
    refine pw_ialdr (c := 136) (ix := 1) (aX12_isBase 10 rfl) rfl (fun _ => ?_)
    refine pw_iconst (v := (2 : Int32)) (aX12_isBase 11 rfl) rfl ?_
    refine pw_icne (tgt := 40) (aX12_isBase 12 rfl) (by decide) (fun b1 => ?_) (fun b1 => ?_)
    · skip
      refine pw_aloadn (aX12_isBase 13 rfl) rfl ?_
      refine pw_aloadn (aX12_isBase 14 rfl) rfl ?_
      refine pw_getr (v := .ref (base + 122)) (aX12_isBase 15 rfl) uf_RX12_7 un_RX12_7 (congrArg (fun r => va_rf (h_rf base r)) (q121_1 (hok).2.1)) ?_
      refine pw_aloadn (aX12_isBase 16 rfl) rfl ?_
      refine pw_getr (v := .ref (base + 137)) (aX12_isBase 17 rfl) uf_RX12_63 un_RX12_63 (congrArg (fun r => va_rf (h_rf base r)) (q121_24 (hok).2.1)) ?_
      refine pw_iconst (v := (1 : Int32)) (aX12_isBase 18 rfl) rfl ?_
      refine pw_laldr (c := 137) (ix := 1) (aX12_isBase 19 rfl) rfl (fun _ => ?_)
      refine pw_l2i (aX12_isBase 20 rfl) ?_
      refine pw_laldr (c := 122) (ix := ((FL 137 1).toInt32).toInt.toNat) (aX12_isBase 21 rfl) rfl (fun _ => ?_)
      refine pw_putrl (aX12_isBase 22 rfl) uf_RX12_252 (fun _ _ _ => rfl) (fun t3 => ?_)
      refine pw_goto (tgt := 107) (aX12_isBase 23 rfl) (by decide) ?_
      refine pw_iconst (v := (1 : Int32)) (aX12_isBase 63 rfl) rfl ?_
      exact pw_iret (aX12_isBase 64 rfl) hok
    · skip
      refine pw_aloadn (aX12_isBase 24 rfl) rfl ?_
      refine pw_getr (v := .ref (base + 136)) (aX12_isBase 25 rfl) uf_RX12_60 un_RX12_60 (congrArg (fun r => va_rf (h_rf base r)) (q121_23 (hok).2.1)) ?_
      refine pw_iconst (v := (1 : Int32)) (aX12_isBase 26 rfl) rfl ?_
      refine pw_ialdr (c := 136) (ix := 1) (aX12_isBase 27 rfl) rfl (fun _ => ?_)
      refine pw_iconst (v := (3 : Int32)) (aX12_isBase 28 rfl) rfl ?_
      refine pw_icne (tgt := 63) (aX12_isBase 29 rfl) (by decide) (fun b3 => ?_) (fun b3 => ?_)
      · skip
        refine pw_aloadn (aX12_isBase 30 rfl) rfl ?_
        refine pw_aloadn (aX12_isBase 31 rfl) rfl ?_
        refine pw_getr (v := .ref (base + 137)) (aX12_isBase 32 rfl) uf_RX12_63 un_RX12_63 (congrArg (fun r => va_rf (h_rf base r)) (q121_24 (hok).2.1)) ?_
        refine pw_iconst (v := (1 : Int32)) (aX12_isBase 33 rfl) rfl ?_
        refine pw_laldr (c := 137) (ix := 1) (aX12_isBase 34 rfl) rfl (fun _ => ?_)
        refine pw_putrl (aX12_isBase 35 rfl) uf_RX12_252 (fun _ _ _ => rfl) (fun t5 => ?_)
        refine pw_goto (tgt := 107) (aX12_isBase 36 rfl) (by decide) ?_
        refine pw_iconst (v := (1 : Int32)) (aX12_isBase 63 rfl) rfl ?_
        exact pw_iret (aX12_isBase 64 rfl) hok
      · skip
        refine pw_aloadn (aX12_isBase 37 rfl) rfl ?_
        refine pw_getr (v := .ref (base + 136)) (aX12_isBase 38 rfl) uf_RX12_60 un_RX12_60 (congrArg (fun r => va_rf (h_rf base r)) (q121_23 (hok).2.1)) ?_
        refine pw_iconst (v := (1 : Int32)) (aX12_isBase 39 rfl) rfl ?_
        refine pw_ialdr (c := 136) (ix := 1) (aX12_isBase 40 rfl) rfl (fun _ => ?_)
        refine pw_ifne (tgt := 105) (aX12_isBase 41 rfl) (by decide) (fun b5 => ?_) (fun b5 => ?_)
        · skip
          refine pw_aloadn (aX12_isBase 42 rfl) rfl ?_
          refine pw_getr (v := .ref (base + 128)) (aX12_isBase 43 rfl) uf_RX12_36 un_RX12_36 (congrArg (fun r => va_rf (h_rf base r)) (q121_15 (hok).2.1)) ?_
          refine pw_iconst (v := (1 : Int32)) (aX12_isBase 44 rfl) rfl ?_
          refine pw_ialdr (c := 128) (ix := 1) (aX12_isBase 45 rfl) rfl (fun _ => ?_)
          refine pw_ifle (tgt := 105) (aX12_isBase 46 rfl) (by decide) (fun b6 => ?_) (fun b6 => ?_)
          · skip
            refine pw_aloadn (aX12_isBase 47 rfl) rfl ?_
            refine pw_aloadn (aX12_isBase 48 rfl) rfl ?_
            refine pw_getr (v := .ref (base + 127)) (aX12_isBase 49 rfl) uf_RX12_33 un_RX12_33 (congrArg (fun r => va_rf (h_rf base r)) (q121_14 (hok).2.1)) ?_
            refine pw_sipush (v := (128 : Int32)) (aX12_isBase 50 rfl) rfl ?_
            refine pw_aloadn (aX12_isBase 51 rfl) rfl ?_
            refine pw_getr (v := .ref (base + 128)) (aX12_isBase 52 rfl) uf_RX12_36 un_RX12_36 (congrArg (fun r => va_rf (h_rf base r)) (q121_15 (hok).2.1)) ?_
            refine pw_iconst (v := (1 : Int32)) (aX12_isBase 53 rfl) rfl ?_
            refine pw_ialdr (c := 128) (ix := 1) (aX12_isBase 54 rfl) rfl (fun _ => ?_)
            refine pw_iadd (aX12_isBase 55 rfl) ?_
            refine pw_iconst (v := (1 : Int32)) (aX12_isBase 56 rfl) rfl ?_
            refine pw_isub (aX12_isBase 57 rfl) ?_
            refine pw_laldr (c := 127) (ix := ((((128 : Int32)) + (FI 128 1)) - ((1 : Int32))).toInt.toNat) (aX12_isBase 58 rfl) rfl (fun _ => ?_)
            refine pw_putrl (aX12_isBase 59 rfl) uf_RX12_252 (fun _ _ _ => rfl) (fun t8 => ?_)
            refine pw_goto (tgt := 107) (aX12_isBase 60 rfl) (by decide) ?_
            refine pw_iconst (v := (1 : Int32)) (aX12_isBase 63 rfl) rfl ?_
            exact pw_iret (aX12_isBase 64 rfl) hok
          · skip
            refine pw_iconst (v := (0 : Int32)) (aX12_isBase 61 rfl) rfl ?_
            exact pw_iret (aX12_isBase 62 rfl) hok
        · skip
          refine pw_iconst (v := (0 : Int32)) (aX12_isBase 61 rfl) rfl ?_
          exact pw_iret (aX12_isBase 62 rfl) hok
set_option maxHeartbeats 4000000 in
set_option maxRecDepth 100000 in
theorem rX12_fails {sk : xK} {base N d : Nat} (hkb : x_kb sk base) (a1 : Int32) (a2 : Int32) (n sl : Nat) (SH : Nat → Nat × Nat) (FI : Nat → Nat → Int32) (FL : Nat → Nat → Int64) (FR : Nat → Nat → Option Nat) (hok : pk n SH FR)  : pw pj_I sk base N d none 178 0 [(0, .ref (base + 121)), (1, .int (a1)), (2, .int (a2))] [] (n, sl, SH, FI, FL, FR) (RX12_fails a1 a2 n sl SH FI FL FR) := by
  unfold RX12_fails
  refine pw_aloadn (aX12_fails 0 rfl) rfl ?_
  refine pw_iloadn (aX12_fails 1 rfl) rfl ?_
  refine pw_putri (aX12_fails 2 rfl) uf_RX12_255 (fun _ _ _ => rfl) (fun t1 => ?_)
  refine pw_iloadn (aX12_fails 3 rfl) rfl ?_
  exact pw_iret (aX12_fails 4 rfl) hok
set_option maxHeartbeats 4000000 in
set_option maxRecDepth 100000 in
theorem rX12_clears {sk : xK} {base N d : Nat} (hkb : x_kb sk base) (a1 : Int32) (n sl : Nat) (SH : Nat → Nat × Nat) (FI : Nat → Nat → Int32) (FL : Nat → Nat → Int64) (FR : Nat → Nat → Option Nat) (hok : pk n SH FR)  : pw pj_V sk base N d none 179 0 [(0, .ref (base + 121)), (1, .int (a1))] [] (n, sl, SH, FI, FL, FR) (RX12_clears a1 n sl SH FI FL FR) := by
  unfold RX12_clears
  refine pw_aloadn (aX12_clears 0 rfl) rfl ?_
  refine pw_getr (v := .ref (base + 128)) (aX12_clears 1 rfl) uf_RX12_36 un_RX12_36 (congrArg (fun r => va_rf (h_rf base r)) (q121_15 (hok).2.1)) ?_
  refine pw_iloadn (aX12_clears 2 rfl) rfl ?_
  refine pw_iconst (v := (0 : Int32)) (aX12_clears 3 rfl) rfl ?_
  refine pw_iastr (c := 128) (ix := (a1).toInt.toNat) (aX12_clears 4 rfl) rfl (fun _ => ?_)
  refine pw_aloadn (aX12_clears 5 rfl) rfl ?_
  refine pw_getr (v := .ref (base + 129)) (aX12_clears 6 rfl) uf_RX12_39 un_RX12_39 (congrArg (fun r => va_rf (h_rf base r)) (q121_16 (hok).2.1)) ?_
  refine pw_iloadn (aX12_clears 7 rfl) rfl ?_
  refine pw_iconst (v := (0 : Int32)) (aX12_clears 8 rfl) rfl ?_
  refine pw_iastr (c := 129) (ix := (a1).toInt.toNat) (aX12_clears 9 rfl) rfl (fun _ => ?_)
  refine pw_aloadn (aX12_clears 10 rfl) rfl ?_
  refine pw_getr (v := .ref (base + 135)) (aX12_clears 11 rfl) uf_RX12_57 un_RX12_57 (congrArg (fun r => va_rf (h_rf base r)) (q121_22 (hok).2.1)) ?_
  refine pw_iloadn (aX12_clears 12 rfl) rfl ?_
  refine pw_iconst (v := (0 : Int32)) (aX12_clears 13 rfl) rfl ?_
  refine pw_iastr (c := 135) (ix := (a1).toInt.toNat) (aX12_clears 14 rfl) rfl (fun _ => ?_)
  refine pw_aloadn (aX12_clears 15 rfl) rfl ?_
  refine pw_getr (v := .ref (base + 136)) (aX12_clears 16 rfl) uf_RX12_60 un_RX12_60 (congrArg (fun r => va_rf (h_rf base r)) (q121_23 (hok).2.1)) ?_
  refine pw_iloadn (aX12_clears 17 rfl) rfl ?_
  refine pw_iconst (v := (0 : Int32)) (aX12_clears 18 rfl) rfl ?_
  refine pw_iastr (c := 136) (ix := (a1).toInt.toNat) (aX12_clears 19 rfl) rfl (fun _ => ?_)
  refine pw_aloadn (aX12_clears 20 rfl) rfl ?_
  refine pw_getr (v := .ref (base + 142)) (aX12_clears 21 rfl) uf_RX12_78 un_RX12_78 (congrArg (fun r => va_rf (h_rf base r)) (q121_45 (hok).2.1)) ?_
  refine pw_iloadn (aX12_clears 22 rfl) rfl ?_
  refine pw_iconst (v := (0 : Int32)) (aX12_clears 23 rfl) rfl ?_
  refine pw_iastr (c := 142) (ix := (a1).toInt.toNat) (aX12_clears 24 rfl) rfl (fun _ => ?_)
  exact pw_vret (aX12_clears 25 rfl) hok
set_option maxHeartbeats 4000000 in
set_option maxRecDepth 100000 in
theorem rX12_pushed {sk : xK} {base N d : Nat} (hkb : x_kb sk base) (a1 : Int32) (a2 : Int64) (n sl : Nat) (SH : Nat → Nat × Nat) (FI : Nat → Nat → Int32) (FL : Nat → Nat → Int64) (FR : Nat → Nat → Option Nat) (hok : pk n SH FR)  : pw pj_V sk base N d none 180 0 [(0, .ref (base + 121)), (1, .int (a1)), (2, .long (a2))] [] (n, sl, SH, FI, FL, FR) (RX12_pushed a1 a2 n sl SH FI FL FR) := by
  unfold RX12_pushed
  refine pw_aloadn (aX12_pushed 0 rfl) rfl ?_
  refine pw_getr (v := .ref (base + 127)) (aX12_pushed 1 rfl) uf_RX12_33 un_RX12_33 (congrArg (fun r => va_rf (h_rf base r)) (q121_14 (hok).2.1)) ?_
  refine pw_sipush (v := (128 : Int32)) (aX12_pushed 2 rfl) rfl ?_
  refine pw_iloadn (aX12_pushed 3 rfl) rfl ?_
  refine pw_imul (aX12_pushed 4 rfl) ?_
  refine pw_aloadn (aX12_pushed 5 rfl) rfl ?_
  refine pw_getr (v := .ref (base + 128)) (aX12_pushed 6 rfl) uf_RX12_36 un_RX12_36 (congrArg (fun r => va_rf (h_rf base r)) (q121_15 (hok).2.1)) ?_
  refine pw_iloadn (aX12_pushed 7 rfl) rfl ?_
  refine pw_ialdr (c := 128) (ix := (a1).toInt.toNat) (aX12_pushed 8 rfl) rfl (fun _ => ?_)
  refine pw_iadd (aX12_pushed 9 rfl) ?_
  refine pw_lloadn (aX12_pushed 10 rfl) rfl ?_
  refine pw_lastr (c := 127) (ix := ((((128 : Int32)) * (a1)) + (FI 128 (a1).toInt.toNat)).toInt.toNat) (aX12_pushed 11 rfl) rfl (fun _ => ?_)
  refine pw_aloadn (aX12_pushed 12 rfl) rfl ?_
  refine pw_getr (v := .ref (base + 128)) (aX12_pushed 13 rfl) uf_RX12_36 un_RX12_36 (congrArg (fun r => va_rf (h_rf base r)) (q121_15 (hok).2.1)) ?_
  refine pw_iloadn (aX12_pushed 14 rfl) rfl ?_
  refine pw_aloadn (aX12_pushed 15 rfl) rfl ?_
  refine pw_getr (v := .ref (base + 128)) (aX12_pushed 16 rfl) uf_RX12_36 un_RX12_36 (congrArg (fun r => va_rf (h_rf base r)) (q121_15 (hok).2.1)) ?_
  refine pw_iloadn (aX12_pushed 17 rfl) rfl ?_
  refine pw_ialdr (c := 128) (ix := (a1).toInt.toNat) (aX12_pushed 18 rfl) rfl (fun _ => ?_)
  refine pw_iconst (v := (1 : Int32)) (aX12_pushed 19 rfl) rfl ?_
  refine pw_iadd (aX12_pushed 20 rfl) ?_
  refine pw_iastr (c := 128) (ix := (a1).toInt.toNat) (aX12_pushed 21 rfl) rfl (fun _ => ?_)
  refine pw_aloadn (aX12_pushed 22 rfl) rfl ?_
  refine pw_getr (v := .ref (base + 128)) (aX12_pushed 23 rfl) uf_RX12_36 un_RX12_36 (congrArg (fun r => va_rf (h_rf base r)) (q121_15 (hok).2.1)) ?_
  refine pw_iloadn (aX12_pushed 24 rfl) rfl ?_
  refine pw_ialdr (c := 128) (ix := (a1).toInt.toNat) (aX12_pushed 25 rfl) rfl (fun _ => ?_)
  refine pw_aloadn (aX12_pushed 26 rfl) rfl ?_
  refine pw_getr (v := .int (FI 121 32)) (aX12_pushed 27 rfl) uf_RX12_258 un_RX12_258 rfl ?_
  rw [h_up_eq]
  refine pw_icle (tgt := 55) (aX12_pushed 28 rfl) (by decide) (fun b0 => ?_) (fun b0 => ?_)
  · skip
    refine pw_aloadn (aX12_pushed 29 rfl) rfl ?_
    refine pw_aloadn (aX12_pushed 30 rfl) rfl ?_
    refine pw_getr (v := .ref (base + 128)) (aX12_pushed 31 rfl) uf_RX12_36 un_RX12_36 (congrArg (fun r => va_rf (h_rf base r)) (q121_15 (hok).2.1)) ?_
    refine pw_iloadn (aX12_pushed 32 rfl) rfl ?_
    refine pw_ialdr (c := 128) (ix := (a1).toInt.toNat) (aX12_pushed 33 rfl) rfl (fun _ => ?_)
    rw [h_up_eq]
    refine pw_putri (aX12_pushed 34 rfl) uf_RX12_258 (fun _ _ _ => rfl) (fun t2 => ?_)
    exact pw_vret (aX12_pushed 35 rfl) hok
  · skip
    exact pw_vret (aX12_pushed 35 rfl) hok
set_option maxHeartbeats 4000000 in
set_option maxRecDepth 100000 in
theorem rX12_isPiece_202 {sk : xK} {base N d : Nat}  (hkb : x_kb sk base) (a1 : Int32) (a2 : Int32) (a3 : Int64) (a4 : Int64) (l7i : Int32) (l8i : Int32) (n sl : Nat) (SH : Nat → Nat × Nat) (FI : Nat → Nat → Int32) (FL : Nat → Nat → Int64) (FR : Nat → Nat → Option Nat) (hok : pk n SH FR)   : pw pj_I sk base N d none 182 202 [(0, .ref (base + 121)), (1, .int (a1)), (2, .int (a2)), (3, .long (a3)), (5, .long (a4)), (7, .int (l7i)), (8, .int (l8i))] [] (n, sl, SH, FI, FL, FR) (RX12_isPiece_202  a1 a2 a3 a4 l7i n sl SH FI FL FR) := by
  unfold RX12_isPiece_202
  refine pw_aloadn (aX12_isPiece 118 rfl) rfl ?_
  refine pw_getr (v := .ref (base + 135)) (aX12_isPiece 119 rfl) uf_RX12_57 un_RX12_57 (congrArg (fun r => va_rf (h_rf base r)) (q121_22 (hok).2.1)) ?_
  refine pw_iloadn (aX12_isPiece 120 rfl) rfl ?_
  refine pw_aloadn (aX12_isPiece 121 rfl) rfl ?_
  refine pw_getr (v := .ref (base + 135)) (aX12_isPiece 122 rfl) uf_RX12_57 un_RX12_57 (congrArg (fun r => va_rf (h_rf base r)) (q121_22 (hok).2.1)) ?_
  refine pw_iloadn (aX12_isPiece 123 rfl) rfl ?_
  refine pw_ialdr (c := 135) (ix := (a1).toInt.toNat) (aX12_isPiece 124 rfl) rfl (fun _ => ?_)
  refine pw_iload (aX12_isPiece 125 rfl) rfl ?_
  refine pw_iadd (aX12_isPiece 126 rfl) ?_
  refine pw_iastr (c := 135) (ix := (a1).toInt.toNat) (aX12_isPiece 127 rfl) rfl (fun _ => ?_)
  refine pw_aloadn (aX12_isPiece 128 rfl) rfl ?_
  refine pw_getr (v := .ref (base + 129)) (aX12_isPiece 129 rfl) uf_RX12_39 un_RX12_39 (congrArg (fun r => va_rf (h_rf base r)) (q121_16 (hok).2.1)) ?_
  refine pw_iloadn (aX12_isPiece 130 rfl) rfl ?_
  refine pw_aloadn (aX12_isPiece 131 rfl) rfl ?_
  refine pw_getr (v := .ref (base + 129)) (aX12_isPiece 132 rfl) uf_RX12_39 un_RX12_39 (congrArg (fun r => va_rf (h_rf base r)) (q121_16 (hok).2.1)) ?_
  refine pw_iloadn (aX12_isPiece 133 rfl) rfl ?_
  refine pw_ialdr (c := 129) (ix := (a1).toInt.toNat) (aX12_isPiece 134 rfl) rfl (fun _ => ?_)
  refine pw_iconst (v := (1 : Int32)) (aX12_isPiece 135 rfl) rfl ?_
  refine pw_iadd (aX12_isPiece 136 rfl) ?_
  refine pw_iastr (c := 129) (ix := (a1).toInt.toNat) (aX12_isPiece 137 rfl) rfl (fun _ => ?_)
  refine pw_aloadn (aX12_isPiece 138 rfl) rfl ?_
  refine pw_getr (v := .ref (base + 136)) (aX12_isPiece 139 rfl) uf_RX12_60 un_RX12_60 (congrArg (fun r => va_rf (h_rf base r)) (q121_23 (hok).2.1)) ?_
  refine pw_iloadn (aX12_isPiece 140 rfl) rfl ?_
  refine pw_iconst (v := (0 : Int32)) (aX12_isPiece 141 rfl) rfl ?_
  refine pw_iastr (c := 136) (ix := (a1).toInt.toNat) (aX12_isPiece 142 rfl) rfl (fun _ => ?_)
  refine pw_aloadn (aX12_isPiece 143 rfl) rfl ?_
  refine pw_getr (v := .ref (base + 128)) (aX12_isPiece 144 rfl) uf_RX12_36 un_RX12_36 (congrArg (fun r => va_rf (h_rf base r)) (q121_15 (hok).2.1)) ?_
  refine pw_iloadn (aX12_isPiece 145 rfl) rfl ?_
  refine pw_iconst (v := (0 : Int32)) (aX12_isPiece 146 rfl) rfl ?_
  refine pw_iastr (c := 128) (ix := (a1).toInt.toNat) (aX12_isPiece 147 rfl) rfl (fun _ => ?_)
  refine pw_iconst (v := (1 : Int32)) (aX12_isPiece 148 rfl) rfl ?_
  exact pw_iret (aX12_isPiece 149 rfl) hok
set_option maxHeartbeats 4000000 in
set_option maxRecDepth 100000 in
theorem rX12_isPiece_60 {sk : xK} {base N d : Nat}  (hkb : x_kb sk base) (a1 : Int32) (a2 : Int32) (a3 : Int64) (a4 : Int64) (s0i : Int32)  (n sl : Nat) (SH : Nat → Nat × Nat) (FI : Nat → Nat → Int32) (FL : Nat → Nat → Int64) (FR : Nat → Nat → Option Nat) (hok : pk n SH FR)   : pw pj_I sk base N d none 182 60 [(0, .ref (base + 121)), (1, .int (a1)), (2, .int (a2)), (3, .long (a3)), (5, .long (a4))] [.int (s0i)] (n, sl, SH, FI, FL, FR) (RX12_isPiece_60  a1 a2 a3 a4 s0i n sl SH FI FL FR) := by
  unfold RX12_isPiece_60
  refine pw_istore (L2 := [(7, .int (s0i)), (0, .ref (base + 121)), (1, .int (a1)), (2, .int (a2)), (3, .long (a3)), (5, .long (a4))]) (aX12_isPiece 31 rfl) rfl ?_
  refine pw_aloadn (aX12_isPiece 32 rfl) rfl ?_
  refine pw_getr (v := .ref (base + 135)) (aX12_isPiece 33 rfl) uf_RX12_57 un_RX12_57 (congrArg (fun r => va_rf (h_rf base r)) (q121_22 (hok).2.1)) ?_
  refine pw_iloadn (aX12_isPiece 34 rfl) rfl ?_
  refine pw_ialdr (c := 135) (ix := (a1).toInt.toNat) (aX12_isPiece 35 rfl) rfl (fun _ => ?_)
  refine pw_iload (aX12_isPiece 36 rfl) rfl ?_
  refine pw_iadd (aX12_isPiece 37 rfl) ?_
  refine pw_sipush (v := (4096 : Int32)) (aX12_isPiece 38 rfl) rfl ?_
  refine pw_icle (tgt := 79) (aX12_isPiece 39 rfl) (by decide) (fun b0 => ?_) (fun b0 => ?_)
  · skip
    refine pw_iconst (v := (0 : Int32)) (aX12_isPiece 40 rfl) rfl ?_
    exact pw_iret (aX12_isPiece 41 rfl) hok
  · skip
    refine pw_bipush (v := (16 : Int32)) (aX12_isPiece 42 rfl) rfl ?_
    refine pw_iloadn (aX12_isPiece 43 rfl) rfl ?_
    refine pw_imul (aX12_isPiece 44 rfl) ?_
    refine pw_aloadn (aX12_isPiece 45 rfl) rfl ?_
    refine pw_getr (v := .ref (base + 129)) (aX12_isPiece 46 rfl) uf_RX12_39 un_RX12_39 (congrArg (fun r => va_rf (h_rf base r)) (q121_16 (hok).2.1)) ?_
    refine pw_iloadn (aX12_isPiece 47 rfl) rfl ?_
    refine pw_ialdr (c := 129) (ix := (a1).toInt.toNat) (aX12_isPiece 48 rfl) rfl (fun _ => ?_)
    refine pw_iadd (aX12_isPiece 49 rfl) ?_
    refine pw_istore (L2 := [(8, .int ((((16 : Int32)) * (a1)) + (FI 129 (a1).toInt.toNat))), (7, .int (s0i)), (0, .ref (base + 121)), (1, .int (a1)), (2, .int (a2)), (3, .long (a3)), (5, .long (a4))]) (aX12_isPiece 50 rfl) rfl ?_
    refine pw_aloadn (aX12_isPiece 51 rfl) rfl ?_
    refine pw_getr (v := .ref (base + 132)) (aX12_isPiece 52 rfl) uf_RX12_48 un_RX12_48 (congrArg (fun r => va_rf (h_rf base r)) (q121_19 (hok).2.1)) ?_
    refine pw_iload (aX12_isPiece 53 rfl) rfl ?_
    refine pw_iload (aX12_isPiece 54 rfl) rfl ?_
    refine pw_iastr (c := 132) (ix := ((((16 : Int32)) * (a1)) + (FI 129 (a1).toInt.toNat)).toInt.toNat) (aX12_isPiece 55 rfl) rfl (fun _ => ?_)
    refine pw_aloadn (aX12_isPiece 56 rfl) rfl ?_
    refine pw_getr (v := .ref (base + 133)) (aX12_isPiece 57 rfl) uf_RX12_51 un_RX12_51 (congrArg (fun r => va_rf (h_rf base r)) (q121_20 (hok).2.1)) ?_
    refine pw_iload (aX12_isPiece 58 rfl) rfl ?_
    refine pw_lload (aX12_isPiece 59 rfl) rfl ?_
    refine pw_l2i (aX12_isPiece 60 rfl) ?_
    refine pw_iastr (c := 133) (ix := ((((16 : Int32)) * (a1)) + (FI 129 (a1).toInt.toNat)).toInt.toNat) (aX12_isPiece 61 rfl) rfl (fun _ => ?_)
    refine pw_aloadn (aX12_isPiece 62 rfl) rfl ?_
    refine pw_getr (v := .ref (base + 130)) (aX12_isPiece 63 rfl) uf_RX12_42 un_RX12_42 (congrArg (fun r => va_rf (h_rf base r)) (q121_17 (hok).2.1)) ?_
    refine pw_iload (aX12_isPiece 64 rfl) rfl ?_
    refine pw_aloadn (aX12_isPiece 65 rfl) rfl ?_
    refine pw_getr (v := .ref (base + 136)) (aX12_isPiece 66 rfl) uf_RX12_60 un_RX12_60 (congrArg (fun r => va_rf (h_rf base r)) (q121_23 (hok).2.1)) ?_
    refine pw_iloadn (aX12_isPiece 67 rfl) rfl ?_
    refine pw_ialdr (c := 136) (ix := (a1).toInt.toNat) (aX12_isPiece 68 rfl) rfl (fun _ => ?_)
    refine pw_iastr (c := 130) (ix := ((((16 : Int32)) * (a1)) + (FI 129 (a1).toInt.toNat)).toInt.toNat) (aX12_isPiece 69 rfl) rfl (fun _ => ?_)
    refine pw_aloadn (aX12_isPiece 70 rfl) rfl ?_
    refine pw_getr (v := .ref (base + 131)) (aX12_isPiece 71 rfl) uf_RX12_45 un_RX12_45 (congrArg (fun r => va_rf (h_rf base r)) (q121_18 (hok).2.1)) ?_
    refine pw_iload (aX12_isPiece 72 rfl) rfl ?_
    refine pw_aloadn (aX12_isPiece 73 rfl) rfl ?_
    refine pw_getr (v := .ref (base + 137)) (aX12_isPiece 74 rfl) uf_RX12_63 un_RX12_63 (congrArg (fun r => va_rf (h_rf base r)) (q121_24 (hok).2.1)) ?_
    refine pw_iloadn (aX12_isPiece 75 rfl) rfl ?_
    refine pw_laldr (c := 137) (ix := (a1).toInt.toNat) (aX12_isPiece 76 rfl) rfl (fun _ => ?_)
    refine pw_lastr (c := 131) (ix := ((((16 : Int32)) * (a1)) + (FI 129 (a1).toInt.toNat)).toInt.toNat) (aX12_isPiece 77 rfl) rfl (fun _ => ?_)
    refine pw_aloadn (aX12_isPiece 78 rfl) rfl ?_
    refine pw_getr (v := .ref (base + 134)) (aX12_isPiece 79 rfl) uf_RX12_54 un_RX12_54 (congrArg (fun r => va_rf (h_rf base r)) (q121_21 (hok).2.1)) ?_
    refine pw_iload (aX12_isPiece 80 rfl) rfl ?_
    refine pw_aloadn (aX12_isPiece 81 rfl) rfl ?_
    refine pw_getr (v := .ref (base + 138)) (aX12_isPiece 82 rfl) uf_RX12_66 un_RX12_66 (congrArg (fun r => va_rf (h_rf base r)) (q121_25 (hok).2.1)) ?_
    refine pw_iloadn (aX12_isPiece 83 rfl) rfl ?_
    refine pw_ialdr (c := 138) (ix := (a1).toInt.toNat) (aX12_isPiece 84 rfl) rfl (fun _ => ?_)
    refine pw_iastr (c := 134) (ix := ((((16 : Int32)) * (a1)) + (FI 129 (a1).toInt.toNat)).toInt.toNat) (aX12_isPiece 85 rfl) rfl (fun _ => ?_)
    refine pw_aloadn (aX12_isPiece 86 rfl) rfl ?_
    refine pw_getr (v := .ref (base + 136)) (aX12_isPiece 87 rfl) uf_RX12_60 un_RX12_60 (congrArg (fun r => va_rf (h_rf base r)) (q121_23 (hok).2.1)) ?_
    refine pw_iloadn (aX12_isPiece 88 rfl) rfl ?_
    refine pw_ialdr (c := 136) (ix := (a1).toInt.toNat) (aX12_isPiece 89 rfl) rfl (fun _ => ?_)
    refine pw_ifne (tgt := 202) (aX12_isPiece 90 rfl) (by decide) (fun b1 => ?_) (fun b1 => ?_)
    · skip
      refine pw_aloadn (aX12_isPiece 91 rfl) rfl ?_
      refine pw_getr (v := .ref (base + 128)) (aX12_isPiece 92 rfl) uf_RX12_36 un_RX12_36 (congrArg (fun r => va_rf (h_rf base r)) (q121_15 (hok).2.1)) ?_
      refine pw_iloadn (aX12_isPiece 93 rfl) rfl ?_
      refine pw_ialdr (c := 128) (ix := (a1).toInt.toNat) (aX12_isPiece 94 rfl) rfl (fun _ => ?_)
      refine pw_ifle (tgt := 202) (aX12_isPiece 95 rfl) (by decide) (fun b2 => ?_) (fun b2 => ?_)
      · skip
        refine pw_aloadn (aX12_isPiece 96 rfl) rfl ?_
        refine pw_getr (v := .ref (base + 130)) (aX12_isPiece 97 rfl) uf_RX12_42 un_RX12_42 (congrArg (fun r => va_rf (h_rf base r)) (q121_17 (hok).2.1)) ?_
        refine pw_iload (aX12_isPiece 98 rfl) rfl ?_
        refine pw_iconst (v := (1 : Int32)) (aX12_isPiece 99 rfl) rfl ?_
        refine pw_iastr (c := 130) (ix := ((((16 : Int32)) * (a1)) + (FI 129 (a1).toInt.toNat)).toInt.toNat) (aX12_isPiece 100 rfl) rfl (fun _ => ?_)
        refine pw_aloadn (aX12_isPiece 101 rfl) rfl ?_
        refine pw_getr (v := .ref (base + 131)) (aX12_isPiece 102 rfl) uf_RX12_45 un_RX12_45 (congrArg (fun r => va_rf (h_rf base r)) (q121_18 (hok).2.1)) ?_
        refine pw_iload (aX12_isPiece 103 rfl) rfl ?_
        refine pw_aloadn (aX12_isPiece 104 rfl) rfl ?_
        refine pw_getr (v := .ref (base + 127)) (aX12_isPiece 105 rfl) uf_RX12_33 un_RX12_33 (congrArg (fun r => va_rf (h_rf base r)) (q121_14 (hok).2.1)) ?_
        refine pw_sipush (v := (128 : Int32)) (aX12_isPiece 106 rfl) rfl ?_
        refine pw_iloadn (aX12_isPiece 107 rfl) rfl ?_
        refine pw_imul (aX12_isPiece 108 rfl) ?_
        refine pw_aloadn (aX12_isPiece 109 rfl) rfl ?_
        refine pw_getr (v := .ref (base + 128)) (aX12_isPiece 110 rfl) uf_RX12_36 un_RX12_36 (congrArg (fun r => va_rf (h_rf base r)) (q121_15 (hok).2.1)) ?_
        refine pw_iloadn (aX12_isPiece 111 rfl) rfl ?_
        refine pw_ialdr (c := 128) (ix := (a1).toInt.toNat) (aX12_isPiece 112 rfl) rfl (fun _ => ?_)
        refine pw_iadd (aX12_isPiece 113 rfl) ?_
        refine pw_iconst (v := (1 : Int32)) (aX12_isPiece 114 rfl) rfl ?_
        refine pw_isub (aX12_isPiece 115 rfl) ?_
        refine pw_laldr (c := 127) (ix := (((((128 : Int32)) * (a1)) + (FI 128 (a1).toInt.toNat)) - ((1 : Int32))).toInt.toNat) (aX12_isPiece 116 rfl) rfl (fun _ => ?_)
        refine pw_lastr (c := 131) (ix := ((((16 : Int32)) * (a1)) + (FI 129 (a1).toInt.toNat)).toInt.toNat) (aX12_isPiece 117 rfl) rfl (fun _ => ?_)
        exact pw_Li (L2 := [(0, .ref (base + 121)), (1, .int (a1)), (2, .int (a2)), (3, .long (a3)), (5, .long (a4)), (7, .int (s0i)), (8, .int ((((16 : Int32)) * (a1)) + (FI 129 (a1).toInt.toNat)))]) [6, 5, 0, 1, 2, 3, 4] (rX12_isPiece_202 hkb a1 a2 a3 a4 (s0i) ((((16 : Int32)) * (a1)) + (FI 129 (a1).toInt.toNat)) n sl SH (h_up (h_up (h_up (h_up (h_up FI 132 ((((16 : Int32)) * (a1)) + (FI 129 (a1).toInt.toNat)).toInt.toNat (s0i)) 133 ((((16 : Int32)) * (a1)) + (FI 129 (a1).toInt.toNat)).toInt.toNat ((a4).toInt32)) 130 ((((16 : Int32)) * (a1)) + (FI 129 (a1).toInt.toNat)).toInt.toNat (FI 136 (a1).toInt.toNat)) 134 ((((16 : Int32)) * (a1)) + (FI 129 (a1).toInt.toNat)).toInt.toNat (FI 138 (a1).toInt.toNat)) 130 ((((16 : Int32)) * (a1)) + (FI 129 (a1).toInt.toNat)).toInt.toNat ((1 : Int32))) (h_up (h_up FL 131 ((((16 : Int32)) * (a1)) + (FI 129 (a1).toInt.toNat)).toInt.toNat (FL 137 (a1).toInt.toNat)) 131 ((((16 : Int32)) * (a1)) + (FI 129 (a1).toInt.toNat)).toInt.toNat (FL 127 (((((128 : Int32)) * (a1)) + (FI 128 (a1).toInt.toNat)) - ((1 : Int32))).toInt.toNat)) FR hok  ) ⟨rfl, rfl, rfl, rfl, rfl, rfl, rfl, trivial⟩
      · skip
        exact pw_Li (L2 := [(0, .ref (base + 121)), (1, .int (a1)), (2, .int (a2)), (3, .long (a3)), (5, .long (a4)), (7, .int (s0i)), (8, .int ((((16 : Int32)) * (a1)) + (FI 129 (a1).toInt.toNat)))]) [6, 5, 0, 1, 2, 3, 4] (rX12_isPiece_202 hkb a1 a2 a3 a4 (s0i) ((((16 : Int32)) * (a1)) + (FI 129 (a1).toInt.toNat)) n sl SH (h_up (h_up (h_up (h_up FI 132 ((((16 : Int32)) * (a1)) + (FI 129 (a1).toInt.toNat)).toInt.toNat (s0i)) 133 ((((16 : Int32)) * (a1)) + (FI 129 (a1).toInt.toNat)).toInt.toNat ((a4).toInt32)) 130 ((((16 : Int32)) * (a1)) + (FI 129 (a1).toInt.toNat)).toInt.toNat (FI 136 (a1).toInt.toNat)) 134 ((((16 : Int32)) * (a1)) + (FI 129 (a1).toInt.toNat)).toInt.toNat (FI 138 (a1).toInt.toNat)) (h_up FL 131 ((((16 : Int32)) * (a1)) + (FI 129 (a1).toInt.toNat)).toInt.toNat (FL 137 (a1).toInt.toNat)) FR hok  ) ⟨rfl, rfl, rfl, rfl, rfl, rfl, rfl, trivial⟩
    · skip
      exact pw_Li (L2 := [(0, .ref (base + 121)), (1, .int (a1)), (2, .int (a2)), (3, .long (a3)), (5, .long (a4)), (7, .int (s0i)), (8, .int ((((16 : Int32)) * (a1)) + (FI 129 (a1).toInt.toNat)))]) [6, 5, 0, 1, 2, 3, 4] (rX12_isPiece_202 hkb a1 a2 a3 a4 (s0i) ((((16 : Int32)) * (a1)) + (FI 129 (a1).toInt.toNat)) n sl SH (h_up (h_up (h_up (h_up FI 132 ((((16 : Int32)) * (a1)) + (FI 129 (a1).toInt.toNat)).toInt.toNat (s0i)) 133 ((((16 : Int32)) * (a1)) + (FI 129 (a1).toInt.toNat)).toInt.toNat ((a4).toInt32)) 130 ((((16 : Int32)) * (a1)) + (FI 129 (a1).toInt.toNat)).toInt.toNat (FI 136 (a1).toInt.toNat)) 134 ((((16 : Int32)) * (a1)) + (FI 129 (a1).toInt.toNat)).toInt.toNat (FI 138 (a1).toInt.toNat)) (h_up FL 131 ((((16 : Int32)) * (a1)) + (FI 129 (a1).toInt.toNat)).toInt.toNat (FL 137 (a1).toInt.toNat)) FR hok  ) ⟨rfl, rfl, rfl, rfl, rfl, rfl, rfl, trivial⟩
set_option maxHeartbeats 4000000 in
set_option maxRecDepth 100000 in
theorem rX12_isPiece_26 {sk : xK} {base N d : Nat}  (hkb : x_kb sk base) (a1 : Int32) (a2 : Int32) (a3 : Int64) (a4 : Int64) (s0l : Int64) (s1l : Int64)  (n sl : Nat) (SH : Nat → Nat × Nat) (FI : Nat → Nat → Int32) (FL : Nat → Nat → Int64) (FR : Nat → Nat → Option Nat) (hok : pk n SH FR)   : pw pj_I sk base N d none 182 26 [(0, .ref (base + 121)), (1, .int (a1)), (2, .int (a2)), (3, .long (a3)), (5, .long (a4))] [.long (s0l), .long (s1l), .ref (base + 121)] (n, sl, SH, FI, FL, FR) (RX12_isPiece_26  a1 a2 a3 a4 s0l s1l n sl SH FI FL FR) := by
  unfold RX12_isPiece_26
  refine pw_cf (pw_callV (Bs := [.long (s1l), .long (s0l)]) (rest := []) (aX12_isPiece 13 rfl) um_RX12_312 ujX12_isAbove wc_RX12_312.2.2.2.2 (by decide) (by decide) rfl rfl (fun d => rX12_isAbove hkb (s1l) (s0l) n sl SH FI FL FR hok) (fun v0 n0 sl0 SH0 FI0 FL0 FR0 _ hC => ?_))
  obtain ⟨rfl, hC⟩ := hC; cases hC
  show pw _ _ _ _ _ _ _ 29 _ [.int (fX12_isAbove (s1l) (s0l) SH FI FL FR)] _ _
  refine pw_ifne (tgt := 44) (aX12_isPiece 14 rfl) (by decide) (fun b1 => ?_) (fun b1 => ?_)
  · skip
    refine pw_aloadn (aX12_isPiece 15 rfl) rfl ?_
    refine pw_lload (aX12_isPiece 16 rfl) rfl ?_
    refine pw_ldc2 (v := (4096 : Int64)) (aX12_isPiece 17 rfl) uk_RX12_218 ?_
    refine pw_cf (pw_callV (Bs := [.long (a4), .long ((4096 : Int64))]) (rest := []) (aX12_isPiece 18 rfl) um_RX12_312 ujX12_isAbove wc_RX12_312.2.2.2.2 (by decide) (by decide) rfl rfl (fun d => rX12_isAbove hkb (a4) ((4096 : Int64)) n sl SH FI FL FR hok) (fun v2 n2 sl2 SH2 FI2 FL2 FR2 _ hC => ?_))
    obtain ⟨rfl, hC⟩ := hC; cases hC
    show pw _ _ _ _ _ _ _ 41 _ [.int (fX12_isAbove (a4) ((4096 : Int64)) SH FI FL FR)] _ _
    refine pw_ifeq (tgt := 46) (aX12_isPiece 19 rfl) (by decide) (fun b3 => ?_) (fun b3 => ?_)
    · skip
      refine pw_iloadn (aX12_isPiece 22 rfl) rfl ?_
      refine pw_ifeq (tgt := 55) (aX12_isPiece 23 rfl) (by decide) (fun b4 => ?_) (fun b4 => ?_)
      · skip
        refine pw_bipush (v := (8 : Int32)) (aX12_isPiece 27 rfl) rfl ?_
        refine pw_lloadn (aX12_isPiece 28 rfl) rfl ?_
        refine pw_l2i (aX12_isPiece 29 rfl) ?_
        refine pw_imul (aX12_isPiece 30 rfl) ?_
        exact pw_Li (L2 := [(0, .ref (base + 121)), (1, .int (a1)), (2, .int (a2)), (3, .long (a3)), (5, .long (a4))]) [0, 1, 2, 3, 4] (rX12_isPiece_60 hkb a1 a2 a3 a4 (((8 : Int32)) * ((a3).toInt32)) n sl SH FI FL FR hok  ) ⟨rfl, rfl, rfl, rfl, rfl, trivial⟩
      · skip
        refine pw_lloadn (aX12_isPiece 24 rfl) rfl ?_
        refine pw_l2i (aX12_isPiece 25 rfl) ?_
        refine pw_goto (tgt := 60) (aX12_isPiece 26 rfl) (by decide) ?_
        exact pw_Li (L2 := [(0, .ref (base + 121)), (1, .int (a1)), (2, .int (a2)), (3, .long (a3)), (5, .long (a4))]) [0, 1, 2, 3, 4] (rX12_isPiece_60 hkb a1 a2 a3 a4 ((a3).toInt32) n sl SH FI FL FR hok  ) ⟨rfl, rfl, rfl, rfl, rfl, trivial⟩
    · skip
      refine pw_iconst (v := (0 : Int32)) (aX12_isPiece 20 rfl) rfl ?_
      exact pw_iret (aX12_isPiece 21 rfl) hok
  · skip
    refine pw_iconst (v := (0 : Int32)) (aX12_isPiece 20 rfl) rfl ?_
    exact pw_iret (aX12_isPiece 21 rfl) hok
set_option maxHeartbeats 4000000 in
set_option maxRecDepth 100000 in
theorem rX12_isPiece {sk : xK} {base N d : Nat} (hkb : x_kb sk base) (a1 : Int32) (a2 : Int32) (a3 : Int64) (a4 : Int64) (n sl : Nat) (SH : Nat → Nat × Nat) (FI : Nat → Nat → Int32) (FL : Nat → Nat → Int64) (FR : Nat → Nat → Option Nat) (hok : pk n SH FR)  : pw pj_I sk base N d none 182 0 [(0, .ref (base + 121)), (1, .int (a1)), (2, .int (a2)), (3, .long (a3)), (5, .long (a4))] [] (n, sl, SH, FI, FL, FR) (RX12_isPiece a1 a2 a3 a4 n sl SH FI FL FR) := by
  unfold RX12_isPiece
  refine pw_aloadn (aX12_isPiece 0 rfl) rfl ?_
  refine pw_getr (v := .ref (base + 129)) (aX12_isPiece 1 rfl) uf_RX12_39 un_RX12_39 (congrArg (fun r => va_rf (h_rf base r)) (q121_16 (hok).2.1)) ?_
  refine pw_iloadn (aX12_isPiece 2 rfl) rfl ?_
  refine pw_ialdr (c := 129) (ix := (a1).toInt.toNat) (aX12_isPiece 3 rfl) rfl (fun _ => ?_)
  refine pw_bipush (v := (16 : Int32)) (aX12_isPiece 4 rfl) rfl ?_
  refine pw_iceq (tgt := 44) (aX12_isPiece 5 rfl) (by decide) (fun b0 => ?_) (fun b0 => ?_)
  · skip
    refine pw_iconst (v := (0 : Int32)) (aX12_isPiece 20 rfl) rfl ?_
    exact pw_iret (aX12_isPiece 21 rfl) hok
  · skip
    refine pw_aloadn (aX12_isPiece 6 rfl) rfl ?_
    refine pw_lloadn (aX12_isPiece 7 rfl) rfl ?_
    refine pw_iloadn (aX12_isPiece 8 rfl) rfl ?_
    refine pw_ifeq (tgt := 23) (aX12_isPiece 9 rfl) (by decide) (fun b1 => ?_) (fun b1 => ?_)
    · skip
      refine pw_ldc2 (v := (512 : Int64)) (aX12_isPiece 12 rfl) uk_RX12_340 ?_
      exact pw_Li (L2 := [(0, .ref (base + 121)), (1, .int (a1)), (2, .int (a2)), (3, .long (a3)), (5, .long (a4))]) [0, 1, 2, 3, 4] (rX12_isPiece_26 hkb a1 a2 a3 a4 ((512 : Int64)) (a3) n sl SH FI FL FR hok  ) ⟨rfl, rfl, rfl, rfl, rfl, trivial⟩
    · skip
      refine pw_ldc2 (v := (4096 : Int64)) (aX12_isPiece 10 rfl) uk_RX12_218 ?_
      refine pw_goto (tgt := 26) (aX12_isPiece 11 rfl) (by decide) ?_
      exact pw_Li (L2 := [(0, .ref (base + 121)), (1, .int (a1)), (2, .int (a2)), (3, .long (a3)), (5, .long (a4))]) [0, 1, 2, 3, 4] (rX12_isPiece_26 hkb a1 a2 a3 a4 ((4096 : Int64)) (a3) n sl SH FI FL FR hok  ) ⟨rfl, rfl, rfl, rfl, rfl, trivial⟩
set_option maxHeartbeats 4000000 in
set_option maxRecDepth 100000 in
theorem rX12_pushes_ {sk : xK} {base N d : Nat} (hkb : x_kb sk base) (a1 : Int32) (a2 : Int64) (a3 : Int64) (a4 : Int64) (a5 : Int64) (a6 : Int32) (n sl : Nat) (SH : Nat → Nat × Nat) (FI : Nat → Nat → Int32) (FL : Nat → Nat → Int64) (FR : Nat → Nat → Option Nat) (hok : pk n SH FR)  : pw pj_J sk base N d none 183 0 [(0, .ref (base + 121)), (1, .int (a1)), (2, .long (a2)), (4, .long (a3)), (6, .long (a4)), (8, .long (a5)), (10, .int (a6))] [] (n, sl, SH, FI, FL, FR) (P_ret (fX12_pushes_ a1 a2 a3 a4 a5 a6 SH FI FL FR) (n, sl, SH, FI, FL, FR)) := by
  unfold fX12_pushes_
  refine pw_iloadn (aX12_pushes_ 0 rfl) rfl ?_
  refine pw_bipush (v := (48 : Int32)) (aX12_pushes_ 1 rfl) rfl ?_
  refine pw_ite (pw_iclt (tgt := 18) (aX12_pushes_ 2 rfl) (by decide) (fun b0 => ?_) (fun b0 => ?_))
  · skip
    refine pw_iloadn (aX12_pushes_ 11 rfl) rfl ?_
    refine pw_bipush (v := (112 : Int32)) (aX12_pushes_ 12 rfl) rfl ?_
    refine pw_ite (pw_iclt (tgt := 43) (aX12_pushes_ 13 rfl) (by decide) (fun b1 => ?_) (fun b1 => ?_))
    · skip
      refine pw_iloadn (aX12_pushes_ 26 rfl) rfl ?_
      refine pw_sipush (v := (146 : Int32)) (aX12_pushes_ 27 rfl) rfl ?_
      refine pw_ite (pw_icne (tgt := 61) (aX12_pushes_ 28 rfl) (by decide) (fun b2 => ?_) (fun b2 => ?_))
      · skip
        refine pw_aloadn (aX12_pushes_ 29 rfl) rfl ?_
        refine pw_getr (v := .ref (base + 122)) (aX12_pushes_ 30 rfl) uf_RX12_7 un_RX12_7 (congrArg (fun r => va_rf (h_rf base r)) (q121_1 (hok).2.1)) ?_
        refine pw_lloadn (aX12_pushes_ 31 rfl) rfl ?_
        refine pw_l2i (aX12_pushes_ 32 rfl) ?_
        refine pw_sd (pw_laldr (c := 122) (ix := ((a2).toInt32).toInt.toNat) (aX12_pushes_ 33 rfl) rfl (fun _ => ?_))
        refine pw_lload (aX12_pushes_ 34 rfl) rfl ?_
        refine pw_ladd (aX12_pushes_ 35 rfl) ?_
        exact pw_lret (aX12_pushes_ 36 rfl) hok
      · skip
        refine pw_iloadn (aX12_pushes_ 37 rfl) rfl ?_
        refine pw_sipush (v := (151 : Int32)) (aX12_pushes_ 38 rfl) rfl ?_
        refine pw_ite (pw_icne (tgt := 73) (aX12_pushes_ 39 rfl) (by decide) (fun b3 => ?_) (fun b3 => ?_))
        · skip
          refine pw_aloadn (aX12_pushes_ 40 rfl) rfl ?_
          refine pw_getr (v := .long (FL 121 8)) (aX12_pushes_ 41 rfl) uf_RX12_205 un_RX12_205 rfl ?_
          exact pw_lret (aX12_pushes_ 42 rfl) hok
        · skip
          refine pw_iloadn (aX12_pushes_ 43 rfl) rfl ?_
          refine pw_sipush (v := (156 : Int32)) (aX12_pushes_ 44 rfl) rfl ?_
          refine pw_ite (pw_icne (tgt := 95) (aX12_pushes_ 45 rfl) (by decide) (fun b4 => ?_) (fun b4 => ?_))
          · skip
            refine pw_aloadn (aX12_pushes_ 46 rfl) rfl ?_
            refine pw_getr (v := .ref (base + 122)) (aX12_pushes_ 47 rfl) uf_RX12_7 un_RX12_7 (congrArg (fun r => va_rf (h_rf base r)) (q121_1 (hok).2.1)) ?_
            refine pw_aloadn (aX12_pushes_ 48 rfl) rfl ?_
            refine pw_getr (v := .int (FI 121 6)) (aX12_pushes_ 49 rfl) uf_RX12_27 un_RX12_27 rfl ?_
            refine pw_sd (pw_laldr (c := 122) (ix := (FI 121 6).toInt.toNat) (aX12_pushes_ 50 rfl) rfl (fun _ => ?_))
            refine pw_aloadn (aX12_pushes_ 51 rfl) rfl ?_
            refine pw_getr (v := .long (FL 121 7)) (aX12_pushes_ 52 rfl) uf_RX12_201 un_RX12_201 rfl ?_
            refine pw_ladd (aX12_pushes_ 53 rfl) ?_
            exact pw_lret (aX12_pushes_ 54 rfl) hok
          · skip
            refine pw_iloadn (aX12_pushes_ 55 rfl) rfl ?_
            refine pw_bipush (v := (18 : Int32)) (aX12_pushes_ 56 rfl) rfl ?_
            refine pw_ite (pw_icne (tgt := 104) (aX12_pushes_ 57 rfl) (by decide) (fun b5 => ?_) (fun b5 => ?_))
            · skip
              refine pw_lload (aX12_pushes_ 58 rfl) rfl ?_
              exact pw_lret (aX12_pushes_ 59 rfl) hok
            · skip
              refine pw_iloadn (aX12_pushes_ 60 rfl) rfl ?_
              refine pw_bipush (v := (20 : Int32)) (aX12_pushes_ 61 rfl) rfl ?_
              refine pw_ite (pw_icne (tgt := 113) (aX12_pushes_ 62 rfl) (by decide) (fun b6 => ?_) (fun b6 => ?_))
              · skip
                refine pw_lload (aX12_pushes_ 63 rfl) rfl ?_
                exact pw_lret (aX12_pushes_ 64 rfl) hok
              · skip
                refine pw_iloadn (aX12_pushes_ 65 rfl) rfl ?_
                refine pw_bipush (v := (21 : Int32)) (aX12_pushes_ 66 rfl) rfl ?_
                refine pw_ite (pw_icne (tgt := 134) (aX12_pushes_ 67 rfl) (by decide) (fun b7 => ?_) (fun b7 => ?_))
                · skip
                  refine pw_aloadn (aX12_pushes_ 68 rfl) rfl ?_
                  refine pw_getr (v := .ref (base + 127)) (aX12_pushes_ 69 rfl) uf_RX12_33 un_RX12_33 (congrArg (fun r => va_rf (h_rf base r)) (q121_14 (hok).2.1)) ?_
                  refine pw_iload (aX12_pushes_ 70 rfl) rfl ?_
                  refine pw_iconst (v := (1 : Int32)) (aX12_pushes_ 71 rfl) rfl ?_
                  refine pw_isub (aX12_pushes_ 72 rfl) ?_
                  refine pw_lloadn (aX12_pushes_ 73 rfl) rfl ?_
                  refine pw_l2i (aX12_pushes_ 74 rfl) ?_
                  refine pw_isub (aX12_pushes_ 75 rfl) ?_
                  refine pw_sd (pw_laldr (c := 127) (ix := (((a6) - ((1 : Int32))) - ((a2).toInt32)).toInt.toNat) (aX12_pushes_ 76 rfl) rfl (fun _ => ?_))
                  refine pw_goto (tgt := 135) (aX12_pushes_ 77 rfl) (by decide) ?_
                  exact pw_lret (aX12_pushes_ 79 rfl) hok
                · skip
                  refine pw_lloadn (aX12_pushes_ 78 rfl) rfl ?_
                  exact pw_lret (aX12_pushes_ 79 rfl) hok
    · skip
      refine pw_iloadn (aX12_pushes_ 14 rfl) rfl ?_
      refine pw_sipush (v := (143 : Int32)) (aX12_pushes_ 15 rfl) rfl ?_
      refine pw_ite (pw_icgt (tgt := 43) (aX12_pushes_ 16 rfl) (by decide) (fun b8 => ?_) (fun b8 => ?_))
      · skip
        refine pw_iloadn (aX12_pushes_ 26 rfl) rfl ?_
        refine pw_sipush (v := (146 : Int32)) (aX12_pushes_ 27 rfl) rfl ?_
        refine pw_ite (pw_icne (tgt := 61) (aX12_pushes_ 28 rfl) (by decide) (fun b9 => ?_) (fun b9 => ?_))
        · skip
          refine pw_aloadn (aX12_pushes_ 29 rfl) rfl ?_
          refine pw_getr (v := .ref (base + 122)) (aX12_pushes_ 30 rfl) uf_RX12_7 un_RX12_7 (congrArg (fun r => va_rf (h_rf base r)) (q121_1 (hok).2.1)) ?_
          refine pw_lloadn (aX12_pushes_ 31 rfl) rfl ?_
          refine pw_l2i (aX12_pushes_ 32 rfl) ?_
          refine pw_sd (pw_laldr (c := 122) (ix := ((a2).toInt32).toInt.toNat) (aX12_pushes_ 33 rfl) rfl (fun _ => ?_))
          refine pw_lload (aX12_pushes_ 34 rfl) rfl ?_
          refine pw_ladd (aX12_pushes_ 35 rfl) ?_
          exact pw_lret (aX12_pushes_ 36 rfl) hok
        · skip
          refine pw_iloadn (aX12_pushes_ 37 rfl) rfl ?_
          refine pw_sipush (v := (151 : Int32)) (aX12_pushes_ 38 rfl) rfl ?_
          refine pw_ite (pw_icne (tgt := 73) (aX12_pushes_ 39 rfl) (by decide) (fun b10 => ?_) (fun b10 => ?_))
          · skip
            refine pw_aloadn (aX12_pushes_ 40 rfl) rfl ?_
            refine pw_getr (v := .long (FL 121 8)) (aX12_pushes_ 41 rfl) uf_RX12_205 un_RX12_205 rfl ?_
            exact pw_lret (aX12_pushes_ 42 rfl) hok
          · skip
            refine pw_iloadn (aX12_pushes_ 43 rfl) rfl ?_
            refine pw_sipush (v := (156 : Int32)) (aX12_pushes_ 44 rfl) rfl ?_
            refine pw_ite (pw_icne (tgt := 95) (aX12_pushes_ 45 rfl) (by decide) (fun b11 => ?_) (fun b11 => ?_))
            · skip
              refine pw_aloadn (aX12_pushes_ 46 rfl) rfl ?_
              refine pw_getr (v := .ref (base + 122)) (aX12_pushes_ 47 rfl) uf_RX12_7 un_RX12_7 (congrArg (fun r => va_rf (h_rf base r)) (q121_1 (hok).2.1)) ?_
              refine pw_aloadn (aX12_pushes_ 48 rfl) rfl ?_
              refine pw_getr (v := .int (FI 121 6)) (aX12_pushes_ 49 rfl) uf_RX12_27 un_RX12_27 rfl ?_
              refine pw_sd (pw_laldr (c := 122) (ix := (FI 121 6).toInt.toNat) (aX12_pushes_ 50 rfl) rfl (fun _ => ?_))
              refine pw_aloadn (aX12_pushes_ 51 rfl) rfl ?_
              refine pw_getr (v := .long (FL 121 7)) (aX12_pushes_ 52 rfl) uf_RX12_201 un_RX12_201 rfl ?_
              refine pw_ladd (aX12_pushes_ 53 rfl) ?_
              exact pw_lret (aX12_pushes_ 54 rfl) hok
            · skip
              refine pw_iloadn (aX12_pushes_ 55 rfl) rfl ?_
              refine pw_bipush (v := (18 : Int32)) (aX12_pushes_ 56 rfl) rfl ?_
              refine pw_ite (pw_icne (tgt := 104) (aX12_pushes_ 57 rfl) (by decide) (fun b12 => ?_) (fun b12 => ?_))
              · skip
                refine pw_lload (aX12_pushes_ 58 rfl) rfl ?_
                exact pw_lret (aX12_pushes_ 59 rfl) hok
              · skip
                refine pw_iloadn (aX12_pushes_ 60 rfl) rfl ?_
                refine pw_bipush (v := (20 : Int32)) (aX12_pushes_ 61 rfl) rfl ?_
                refine pw_ite (pw_icne (tgt := 113) (aX12_pushes_ 62 rfl) (by decide) (fun b13 => ?_) (fun b13 => ?_))
                · skip
                  refine pw_lload (aX12_pushes_ 63 rfl) rfl ?_
                  exact pw_lret (aX12_pushes_ 64 rfl) hok
                · skip
                  refine pw_iloadn (aX12_pushes_ 65 rfl) rfl ?_
                  refine pw_bipush (v := (21 : Int32)) (aX12_pushes_ 66 rfl) rfl ?_
                  refine pw_ite (pw_icne (tgt := 134) (aX12_pushes_ 67 rfl) (by decide) (fun b14 => ?_) (fun b14 => ?_))
                  · skip
                    refine pw_aloadn (aX12_pushes_ 68 rfl) rfl ?_
                    refine pw_getr (v := .ref (base + 127)) (aX12_pushes_ 69 rfl) uf_RX12_33 un_RX12_33 (congrArg (fun r => va_rf (h_rf base r)) (q121_14 (hok).2.1)) ?_
                    refine pw_iload (aX12_pushes_ 70 rfl) rfl ?_
                    refine pw_iconst (v := (1 : Int32)) (aX12_pushes_ 71 rfl) rfl ?_
                    refine pw_isub (aX12_pushes_ 72 rfl) ?_
                    refine pw_lloadn (aX12_pushes_ 73 rfl) rfl ?_
                    refine pw_l2i (aX12_pushes_ 74 rfl) ?_
                    refine pw_isub (aX12_pushes_ 75 rfl) ?_
                    refine pw_sd (pw_laldr (c := 127) (ix := (((a6) - ((1 : Int32))) - ((a2).toInt32)).toInt.toNat) (aX12_pushes_ 76 rfl) rfl (fun _ => ?_))
                    refine pw_goto (tgt := 135) (aX12_pushes_ 77 rfl) (by decide) ?_
                    exact pw_lret (aX12_pushes_ 79 rfl) hok
                  · skip
                    refine pw_lloadn (aX12_pushes_ 78 rfl) rfl ?_
                    exact pw_lret (aX12_pushes_ 79 rfl) hok
      · skip
        refine pw_aloadn (aX12_pushes_ 17 rfl) rfl ?_
        refine pw_getr (v := .ref (base + 122)) (aX12_pushes_ 18 rfl) uf_RX12_7 un_RX12_7 (congrArg (fun r => va_rf (h_rf base r)) (q121_1 (hok).2.1)) ?_
        refine pw_iloadn (aX12_pushes_ 19 rfl) rfl ?_
        refine pw_bipush (v := (112 : Int32)) (aX12_pushes_ 20 rfl) rfl ?_
        refine pw_isub (aX12_pushes_ 21 rfl) ?_
        refine pw_sd (pw_laldr (c := 122) (ix := ((a1) - ((112 : Int32))).toInt.toNat) (aX12_pushes_ 22 rfl) rfl (fun _ => ?_))
        refine pw_lloadn (aX12_pushes_ 23 rfl) rfl ?_
        refine pw_ladd (aX12_pushes_ 24 rfl) ?_
        exact pw_lret (aX12_pushes_ 25 rfl) hok
  · skip
    refine pw_iloadn (aX12_pushes_ 3 rfl) rfl ?_
    refine pw_bipush (v := (79 : Int32)) (aX12_pushes_ 4 rfl) rfl ?_
    refine pw_ite (pw_icgt (tgt := 18) (aX12_pushes_ 5 rfl) (by decide) (fun b15 => ?_) (fun b15 => ?_))
    · skip
      refine pw_iloadn (aX12_pushes_ 11 rfl) rfl ?_
      refine pw_bipush (v := (112 : Int32)) (aX12_pushes_ 12 rfl) rfl ?_
      refine pw_ite (pw_iclt (tgt := 43) (aX12_pushes_ 13 rfl) (by decide) (fun b16 => ?_) (fun b16 => ?_))
      · skip
        refine pw_iloadn (aX12_pushes_ 26 rfl) rfl ?_
        refine pw_sipush (v := (146 : Int32)) (aX12_pushes_ 27 rfl) rfl ?_
        refine pw_ite (pw_icne (tgt := 61) (aX12_pushes_ 28 rfl) (by decide) (fun b17 => ?_) (fun b17 => ?_))
        · skip
          refine pw_aloadn (aX12_pushes_ 29 rfl) rfl ?_
          refine pw_getr (v := .ref (base + 122)) (aX12_pushes_ 30 rfl) uf_RX12_7 un_RX12_7 (congrArg (fun r => va_rf (h_rf base r)) (q121_1 (hok).2.1)) ?_
          refine pw_lloadn (aX12_pushes_ 31 rfl) rfl ?_
          refine pw_l2i (aX12_pushes_ 32 rfl) ?_
          refine pw_sd (pw_laldr (c := 122) (ix := ((a2).toInt32).toInt.toNat) (aX12_pushes_ 33 rfl) rfl (fun _ => ?_))
          refine pw_lload (aX12_pushes_ 34 rfl) rfl ?_
          refine pw_ladd (aX12_pushes_ 35 rfl) ?_
          exact pw_lret (aX12_pushes_ 36 rfl) hok
        · skip
          refine pw_iloadn (aX12_pushes_ 37 rfl) rfl ?_
          refine pw_sipush (v := (151 : Int32)) (aX12_pushes_ 38 rfl) rfl ?_
          refine pw_ite (pw_icne (tgt := 73) (aX12_pushes_ 39 rfl) (by decide) (fun b18 => ?_) (fun b18 => ?_))
          · skip
            refine pw_aloadn (aX12_pushes_ 40 rfl) rfl ?_
            refine pw_getr (v := .long (FL 121 8)) (aX12_pushes_ 41 rfl) uf_RX12_205 un_RX12_205 rfl ?_
            exact pw_lret (aX12_pushes_ 42 rfl) hok
          · skip
            refine pw_iloadn (aX12_pushes_ 43 rfl) rfl ?_
            refine pw_sipush (v := (156 : Int32)) (aX12_pushes_ 44 rfl) rfl ?_
            refine pw_ite (pw_icne (tgt := 95) (aX12_pushes_ 45 rfl) (by decide) (fun b19 => ?_) (fun b19 => ?_))
            · skip
              refine pw_aloadn (aX12_pushes_ 46 rfl) rfl ?_
              refine pw_getr (v := .ref (base + 122)) (aX12_pushes_ 47 rfl) uf_RX12_7 un_RX12_7 (congrArg (fun r => va_rf (h_rf base r)) (q121_1 (hok).2.1)) ?_
              refine pw_aloadn (aX12_pushes_ 48 rfl) rfl ?_
              refine pw_getr (v := .int (FI 121 6)) (aX12_pushes_ 49 rfl) uf_RX12_27 un_RX12_27 rfl ?_
              refine pw_sd (pw_laldr (c := 122) (ix := (FI 121 6).toInt.toNat) (aX12_pushes_ 50 rfl) rfl (fun _ => ?_))
              refine pw_aloadn (aX12_pushes_ 51 rfl) rfl ?_
              refine pw_getr (v := .long (FL 121 7)) (aX12_pushes_ 52 rfl) uf_RX12_201 un_RX12_201 rfl ?_
              refine pw_ladd (aX12_pushes_ 53 rfl) ?_
              exact pw_lret (aX12_pushes_ 54 rfl) hok
            · skip
              refine pw_iloadn (aX12_pushes_ 55 rfl) rfl ?_
              refine pw_bipush (v := (18 : Int32)) (aX12_pushes_ 56 rfl) rfl ?_
              refine pw_ite (pw_icne (tgt := 104) (aX12_pushes_ 57 rfl) (by decide) (fun b20 => ?_) (fun b20 => ?_))
              · skip
                refine pw_lload (aX12_pushes_ 58 rfl) rfl ?_
                exact pw_lret (aX12_pushes_ 59 rfl) hok
              · skip
                refine pw_iloadn (aX12_pushes_ 60 rfl) rfl ?_
                refine pw_bipush (v := (20 : Int32)) (aX12_pushes_ 61 rfl) rfl ?_
                refine pw_ite (pw_icne (tgt := 113) (aX12_pushes_ 62 rfl) (by decide) (fun b21 => ?_) (fun b21 => ?_))
                · skip
                  refine pw_lload (aX12_pushes_ 63 rfl) rfl ?_
                  exact pw_lret (aX12_pushes_ 64 rfl) hok
                · skip
                  refine pw_iloadn (aX12_pushes_ 65 rfl) rfl ?_
                  refine pw_bipush (v := (21 : Int32)) (aX12_pushes_ 66 rfl) rfl ?_
                  refine pw_ite (pw_icne (tgt := 134) (aX12_pushes_ 67 rfl) (by decide) (fun b22 => ?_) (fun b22 => ?_))
                  · skip
                    refine pw_aloadn (aX12_pushes_ 68 rfl) rfl ?_
                    refine pw_getr (v := .ref (base + 127)) (aX12_pushes_ 69 rfl) uf_RX12_33 un_RX12_33 (congrArg (fun r => va_rf (h_rf base r)) (q121_14 (hok).2.1)) ?_
                    refine pw_iload (aX12_pushes_ 70 rfl) rfl ?_
                    refine pw_iconst (v := (1 : Int32)) (aX12_pushes_ 71 rfl) rfl ?_
                    refine pw_isub (aX12_pushes_ 72 rfl) ?_
                    refine pw_lloadn (aX12_pushes_ 73 rfl) rfl ?_
                    refine pw_l2i (aX12_pushes_ 74 rfl) ?_
                    refine pw_isub (aX12_pushes_ 75 rfl) ?_
                    refine pw_sd (pw_laldr (c := 127) (ix := (((a6) - ((1 : Int32))) - ((a2).toInt32)).toInt.toNat) (aX12_pushes_ 76 rfl) rfl (fun _ => ?_))
                    refine pw_goto (tgt := 135) (aX12_pushes_ 77 rfl) (by decide) ?_
                    exact pw_lret (aX12_pushes_ 79 rfl) hok
                  · skip
                    refine pw_lloadn (aX12_pushes_ 78 rfl) rfl ?_
                    exact pw_lret (aX12_pushes_ 79 rfl) hok
      · skip
        refine pw_iloadn (aX12_pushes_ 14 rfl) rfl ?_
        refine pw_sipush (v := (143 : Int32)) (aX12_pushes_ 15 rfl) rfl ?_
        refine pw_ite (pw_icgt (tgt := 43) (aX12_pushes_ 16 rfl) (by decide) (fun b23 => ?_) (fun b23 => ?_))
        · skip
          refine pw_iloadn (aX12_pushes_ 26 rfl) rfl ?_
          refine pw_sipush (v := (146 : Int32)) (aX12_pushes_ 27 rfl) rfl ?_
          refine pw_ite (pw_icne (tgt := 61) (aX12_pushes_ 28 rfl) (by decide) (fun b24 => ?_) (fun b24 => ?_))
          · skip
            refine pw_aloadn (aX12_pushes_ 29 rfl) rfl ?_
            refine pw_getr (v := .ref (base + 122)) (aX12_pushes_ 30 rfl) uf_RX12_7 un_RX12_7 (congrArg (fun r => va_rf (h_rf base r)) (q121_1 (hok).2.1)) ?_
            refine pw_lloadn (aX12_pushes_ 31 rfl) rfl ?_
            refine pw_l2i (aX12_pushes_ 32 rfl) ?_
            refine pw_sd (pw_laldr (c := 122) (ix := ((a2).toInt32).toInt.toNat) (aX12_pushes_ 33 rfl) rfl (fun _ => ?_))
            refine pw_lload (aX12_pushes_ 34 rfl) rfl ?_
            refine pw_ladd (aX12_pushes_ 35 rfl) ?_
            exact pw_lret (aX12_pushes_ 36 rfl) hok
          · skip
            refine pw_iloadn (aX12_pushes_ 37 rfl) rfl ?_
            refine pw_sipush (v := (151 : Int32)) (aX12_pushes_ 38 rfl) rfl ?_
            refine pw_ite (pw_icne (tgt := 73) (aX12_pushes_ 39 rfl) (by decide) (fun b25 => ?_) (fun b25 => ?_))
            · skip
              refine pw_aloadn (aX12_pushes_ 40 rfl) rfl ?_
              refine pw_getr (v := .long (FL 121 8)) (aX12_pushes_ 41 rfl) uf_RX12_205 un_RX12_205 rfl ?_
              exact pw_lret (aX12_pushes_ 42 rfl) hok
            · skip
              refine pw_iloadn (aX12_pushes_ 43 rfl) rfl ?_
              refine pw_sipush (v := (156 : Int32)) (aX12_pushes_ 44 rfl) rfl ?_
              refine pw_ite (pw_icne (tgt := 95) (aX12_pushes_ 45 rfl) (by decide) (fun b26 => ?_) (fun b26 => ?_))
              · skip
                refine pw_aloadn (aX12_pushes_ 46 rfl) rfl ?_
                refine pw_getr (v := .ref (base + 122)) (aX12_pushes_ 47 rfl) uf_RX12_7 un_RX12_7 (congrArg (fun r => va_rf (h_rf base r)) (q121_1 (hok).2.1)) ?_
                refine pw_aloadn (aX12_pushes_ 48 rfl) rfl ?_
                refine pw_getr (v := .int (FI 121 6)) (aX12_pushes_ 49 rfl) uf_RX12_27 un_RX12_27 rfl ?_
                refine pw_sd (pw_laldr (c := 122) (ix := (FI 121 6).toInt.toNat) (aX12_pushes_ 50 rfl) rfl (fun _ => ?_))
                refine pw_aloadn (aX12_pushes_ 51 rfl) rfl ?_
                refine pw_getr (v := .long (FL 121 7)) (aX12_pushes_ 52 rfl) uf_RX12_201 un_RX12_201 rfl ?_
                refine pw_ladd (aX12_pushes_ 53 rfl) ?_
                exact pw_lret (aX12_pushes_ 54 rfl) hok
              · skip
                refine pw_iloadn (aX12_pushes_ 55 rfl) rfl ?_
                refine pw_bipush (v := (18 : Int32)) (aX12_pushes_ 56 rfl) rfl ?_
                refine pw_ite (pw_icne (tgt := 104) (aX12_pushes_ 57 rfl) (by decide) (fun b27 => ?_) (fun b27 => ?_))
                · skip
                  refine pw_lload (aX12_pushes_ 58 rfl) rfl ?_
                  exact pw_lret (aX12_pushes_ 59 rfl) hok
                · skip
                  refine pw_iloadn (aX12_pushes_ 60 rfl) rfl ?_
                  refine pw_bipush (v := (20 : Int32)) (aX12_pushes_ 61 rfl) rfl ?_
                  refine pw_ite (pw_icne (tgt := 113) (aX12_pushes_ 62 rfl) (by decide) (fun b28 => ?_) (fun b28 => ?_))
                  · skip
                    refine pw_lload (aX12_pushes_ 63 rfl) rfl ?_
                    exact pw_lret (aX12_pushes_ 64 rfl) hok
                  · skip
                    refine pw_iloadn (aX12_pushes_ 65 rfl) rfl ?_
                    refine pw_bipush (v := (21 : Int32)) (aX12_pushes_ 66 rfl) rfl ?_
                    refine pw_ite (pw_icne (tgt := 134) (aX12_pushes_ 67 rfl) (by decide) (fun b29 => ?_) (fun b29 => ?_))
                    · skip
                      refine pw_aloadn (aX12_pushes_ 68 rfl) rfl ?_
                      refine pw_getr (v := .ref (base + 127)) (aX12_pushes_ 69 rfl) uf_RX12_33 un_RX12_33 (congrArg (fun r => va_rf (h_rf base r)) (q121_14 (hok).2.1)) ?_
                      refine pw_iload (aX12_pushes_ 70 rfl) rfl ?_
                      refine pw_iconst (v := (1 : Int32)) (aX12_pushes_ 71 rfl) rfl ?_
                      refine pw_isub (aX12_pushes_ 72 rfl) ?_
                      refine pw_lloadn (aX12_pushes_ 73 rfl) rfl ?_
                      refine pw_l2i (aX12_pushes_ 74 rfl) ?_
                      refine pw_isub (aX12_pushes_ 75 rfl) ?_
                      refine pw_sd (pw_laldr (c := 127) (ix := (((a6) - ((1 : Int32))) - ((a2).toInt32)).toInt.toNat) (aX12_pushes_ 76 rfl) rfl (fun _ => ?_))
                      refine pw_goto (tgt := 135) (aX12_pushes_ 77 rfl) (by decide) ?_
                      exact pw_lret (aX12_pushes_ 79 rfl) hok
                    · skip
                      refine pw_lloadn (aX12_pushes_ 78 rfl) rfl ?_
                      exact pw_lret (aX12_pushes_ 79 rfl) hok
        · skip
          refine pw_aloadn (aX12_pushes_ 17 rfl) rfl ?_
          refine pw_getr (v := .ref (base + 122)) (aX12_pushes_ 18 rfl) uf_RX12_7 un_RX12_7 (congrArg (fun r => va_rf (h_rf base r)) (q121_1 (hok).2.1)) ?_
          refine pw_iloadn (aX12_pushes_ 19 rfl) rfl ?_
          refine pw_bipush (v := (112 : Int32)) (aX12_pushes_ 20 rfl) rfl ?_
          refine pw_isub (aX12_pushes_ 21 rfl) ?_
          refine pw_sd (pw_laldr (c := 122) (ix := ((a1) - ((112 : Int32))).toInt.toNat) (aX12_pushes_ 22 rfl) rfl (fun _ => ?_))
          refine pw_lloadn (aX12_pushes_ 23 rfl) rfl ?_
          refine pw_ladd (aX12_pushes_ 24 rfl) ?_
          exact pw_lret (aX12_pushes_ 25 rfl) hok
    · skip
      refine pw_iloadn (aX12_pushes_ 6 rfl) rfl ?_
      refine pw_bipush (v := (48 : Int32)) (aX12_pushes_ 7 rfl) rfl ?_
      refine pw_isub (aX12_pushes_ 8 rfl) ?_
      refine pw_i2l (aX12_pushes_ 9 rfl) ?_
      exact pw_lret (aX12_pushes_ 10 rfl) hok
set_option maxHeartbeats 4000000 in
set_option maxRecDepth 100000 in
theorem rX12_hold {sk : xK} {base N d : Nat} (hkb : x_kb sk base) (a1 : Int32) (a2 : Int32) (a3 : Int64) (a4 : Int32) (n sl : Nat) (SH : Nat → Nat × Nat) (FI : Nat → Nat → Int32) (FL : Nat → Nat → Int64) (FR : Nat → Nat → Option Nat) (hok : pk n SH FR)  : pw pj_V sk base N d none 185 0 [(0, .ref (base + 121)), (1, .int (a1)), (2, .int (a2)), (3, .long (a3)), (5, .int (a4))] [] (n, sl, SH, FI, FL, FR) (RX12_hold a1 a2 a3 a4 n sl SH FI FL FR) := by
  unfold RX12_hold
  refine pw_aloadn (aX12_hold 0 rfl) rfl ?_
  refine pw_getr (v := .ref (base + 136)) (aX12_hold 1 rfl) uf_RX12_60 un_RX12_60 (congrArg (fun r => va_rf (h_rf base r)) (q121_23 (hok).2.1)) ?_
  refine pw_iloadn (aX12_hold 2 rfl) rfl ?_
  refine pw_iloadn (aX12_hold 3 rfl) rfl ?_
  refine pw_iastr (c := 136) (ix := (a1).toInt.toNat) (aX12_hold 4 rfl) rfl (fun _ => ?_)
  refine pw_aloadn (aX12_hold 5 rfl) rfl ?_
  refine pw_getr (v := .ref (base + 137)) (aX12_hold 6 rfl) uf_RX12_63 un_RX12_63 (congrArg (fun r => va_rf (h_rf base r)) (q121_24 (hok).2.1)) ?_
  refine pw_iloadn (aX12_hold 7 rfl) rfl ?_
  refine pw_lloadn (aX12_hold 8 rfl) rfl ?_
  refine pw_lastr (c := 137) (ix := (a1).toInt.toNat) (aX12_hold 9 rfl) rfl (fun _ => ?_)
  refine pw_aloadn (aX12_hold 10 rfl) rfl ?_
  refine pw_getr (v := .ref (base + 138)) (aX12_hold 11 rfl) uf_RX12_66 un_RX12_66 (congrArg (fun r => va_rf (h_rf base r)) (q121_25 (hok).2.1)) ?_
  refine pw_iloadn (aX12_hold 12 rfl) rfl ?_
  refine pw_iload (aX12_hold 13 rfl) rfl ?_
  refine pw_iastr (c := 138) (ix := (a1).toInt.toNat) (aX12_hold 14 rfl) rfl (fun _ => ?_)
  exact pw_vret (aX12_hold 15 rfl) hok
set_option maxHeartbeats 4000000 in
set_option maxRecDepth 100000 in
theorem rX12_acts_395 {sk : xK} {base N d : Nat}  (hkb : x_kb sk base) (a1 : Int32) (a2 : Int32) (a3 : Int64) (a4 : Int64) (l7i : Int32) (l9l : Int64) (l8i : Int32) (l11l : Int64) (n sl : Nat) (SH : Nat → Nat × Nat) (FI : Nat → Nat → Int32) (FL : Nat → Nat → Int64) (FR : Nat → Nat → Option Nat) (hok : pk n SH FR)   : pw pj_V sk base N d none 184 395 [(0, .ref (base + 121)), (1, .int (a1)), (2, .int (a2)), (3, .long (a3)), (5, .long (a4)), (7, .int (l7i)), (8, .int (l8i)), (9, .long (l9l)), (11, .long (l11l))] [] (n, sl, SH, FI, FL, FR) (RX12_acts_395  a1 a2 a3 a4 l7i l9l n sl SH FI FL FR) := by
  unfold RX12_acts_395
  refine pw_iloadn (aX12_acts 218 rfl) rfl ?_
  refine pw_sipush (v := (144 : Int32)) (aX12_acts 219 rfl) rfl ?_
  refine pw_icne (tgt := 413) (aX12_acts 220 rfl) (by decide) (fun b0 => ?_) (fun b0 => ?_)
  · skip
    refine pw_aloadn (aX12_acts 221 rfl) rfl ?_
    refine pw_iloadn (aX12_acts 222 rfl) rfl ?_
    refine pw_iconst (v := (2 : Int32)) (aX12_acts 223 rfl) rfl ?_
    refine pw_lloadn (aX12_acts 224 rfl) rfl ?_
    refine pw_iconst (v := (0 : Int32)) (aX12_acts 225 rfl) rfl ?_
    refine pw_callV (Bs := [.int (a1), .int ((2 : Int32)), .long (a3), .int ((0 : Int32))]) (rest := []) (aX12_acts 226 rfl) um_RX12_350 ujX12_hold wc_RX12_350.2.2.2.2 (by decide) (by decide) rfl rfl (fun d => rX12_hold hkb (a1) ((2 : Int32)) (a3) ((0 : Int32)) n sl SH FI FL FR hok) (fun v1 n1 sl1 SH1 FI1 FL1 FR1 hok1 _ => ?_)
    show pw _ _ _ _ _ _ _ 410 _ [] _ _
    refine pw_goto (tgt := 459) (aX12_acts 227 rfl) (by decide) ?_
    exact pw_vret (aX12_acts 255 rfl) hok1
  · skip
    refine pw_iloadn (aX12_acts 228 rfl) rfl ?_
    refine pw_sipush (v := (159 : Int32)) (aX12_acts 229 rfl) rfl ?_
    refine pw_icne (tgt := 442) (aX12_acts 230 rfl) (by decide) (fun b2 => ?_) (fun b2 => ?_)
    · skip
      refine pw_aloadn (aX12_acts 231 rfl) rfl ?_
      refine pw_getr (v := .ref (base + 128)) (aX12_acts 232 rfl) uf_RX12_36 un_RX12_36 (congrArg (fun r => va_rf (h_rf base r)) (q121_15 (hok).2.1)) ?_
      refine pw_iloadn (aX12_acts 233 rfl) rfl ?_
      refine pw_iload (aX12_acts 234 rfl) rfl ?_
      refine pw_iconst (v := (1 : Int32)) (aX12_acts 235 rfl) rfl ?_
      refine pw_isub (aX12_acts 236 rfl) ?_
      refine pw_iastr (c := 128) (ix := (a1).toInt.toNat) (aX12_acts 237 rfl) rfl (fun _ => ?_)
      refine pw_aloadn (aX12_acts 238 rfl) rfl ?_
      refine pw_iloadn (aX12_acts 239 rfl) rfl ?_
      refine pw_iconst (v := (3 : Int32)) (aX12_acts 240 rfl) rfl ?_
      refine pw_lload (aX12_acts 241 rfl) rfl ?_
      refine pw_iconst (v := (0 : Int32)) (aX12_acts 242 rfl) rfl ?_
      refine pw_callV (Bs := [.int (a1), .int ((3 : Int32)), .long (l9l), .int ((0 : Int32))]) (rest := []) (aX12_acts 243 rfl) um_RX12_350 ujX12_hold wc_RX12_350.2.2.2.2 (by decide) (by decide) rfl rfl (fun d => rX12_hold hkb (a1) ((3 : Int32)) (l9l) ((0 : Int32)) n sl SH (h_up FI 128 (a1).toInt.toNat ((l7i) - ((1 : Int32)))) FL FR hok) (fun v3 n3 sl3 SH3 FI3 FL3 FR3 hok3 _ => ?_)
      show pw _ _ _ _ _ _ _ 439 _ [] _ _
      refine pw_goto (tgt := 459) (aX12_acts 244 rfl) (by decide) ?_
      exact pw_vret (aX12_acts 255 rfl) hok3
    · skip
      refine pw_iloadn (aX12_acts 245 rfl) rfl ?_
      refine pw_sipush (v := (158 : Int32)) (aX12_acts 246 rfl) rfl ?_
      refine pw_icne (tgt := 459) (aX12_acts 247 rfl) (by decide) (fun b4 => ?_) (fun b4 => ?_)
      · skip
        refine pw_aloadn (aX12_acts 248 rfl) rfl ?_
        refine pw_iloadn (aX12_acts 249 rfl) rfl ?_
        refine pw_iconst (v := (4 : Int32)) (aX12_acts 250 rfl) rfl ?_
        refine pw_lload (aX12_acts 251 rfl) rfl ?_
        refine pw_lloadn (aX12_acts 252 rfl) rfl ?_
        refine pw_l2i (aX12_acts 253 rfl) ?_
        refine pw_callV (Bs := [.int (a1), .int ((4 : Int32)), .long (a4), .int ((a3).toInt32)]) (rest := []) (aX12_acts 254 rfl) um_RX12_350 ujX12_hold wc_RX12_350.2.2.2.2 (by decide) (by decide) rfl rfl (fun d => rX12_hold hkb (a1) ((4 : Int32)) (a4) ((a3).toInt32) n sl SH FI FL FR hok) (fun v5 n5 sl5 SH5 FI5 FL5 FR5 hok5 _ => ?_)
        show pw _ _ _ _ _ _ _ 459 _ [] _ _
        exact pw_vret (aX12_acts 255 rfl) hok5
      · skip
        exact pw_vret (aX12_acts 255 rfl) hok
set_option maxHeartbeats 4000000 in
set_option maxRecDepth 100000 in
theorem rX12_acts_368 {sk : xK} {base N d : Nat}  (hkb : x_kb sk base) (a1 : Int32) (a2 : Int32) (a3 : Int64) (a4 : Int64) (l7i : Int32) (l9l : Int64) (l8i : Int32) (l11l : Int64) (n sl : Nat) (SH : Nat → Nat × Nat) (FI : Nat → Nat → Int32) (FL : Nat → Nat → Int64) (FR : Nat → Nat → Option Nat) (hok : pk n SH FR)   : pw pj_V sk base N d none 184 368 [(0, .ref (base + 121)), (1, .int (a1)), (2, .int (a2)), (3, .long (a3)), (5, .long (a4)), (7, .int (l7i)), (8, .int (l8i)), (9, .long (l9l)), (11, .long (l11l))] [] (n, sl, SH, FI, FL, FR) (RX12_acts_368  a1 a2 a3 a4 l7i l9l n sl SH FI FL FR) := by
  unfold RX12_acts_368
  refine pw_iloadn (aX12_acts 202 rfl) rfl ?_
  refine pw_bipush (v := (80 : Int32)) (aX12_acts 203 rfl) rfl ?_
  refine pw_iclt (tgt := 395) (aX12_acts 204 rfl) (by decide) (fun b0 => ?_) (fun b0 => ?_)
  · skip
    exact pw_Li (L2 := [(0, .ref (base + 121)), (1, .int (a1)), (2, .int (a2)), (3, .long (a3)), (5, .long (a4)), (7, .int (l7i)), (8, .int (l8i)), (9, .long (l9l)), (11, .long (l11l))]) [0, 1, 2, 3, 4, 5, 6, 7, 8] (rX12_acts_395 hkb a1 a2 a3 a4 (l7i) (l9l) (l8i) (l11l) n sl SH FI FL FR hok  ) ⟨rfl, rfl, rfl, rfl, rfl, rfl, rfl, rfl, rfl, trivial⟩
  · skip
    refine pw_iloadn (aX12_acts 205 rfl) rfl ?_
    refine pw_bipush (v := (111 : Int32)) (aX12_acts 206 rfl) rfl ?_
    refine pw_icgt (tgt := 395) (aX12_acts 207 rfl) (by decide) (fun b1 => ?_) (fun b1 => ?_)
    · skip
      exact pw_Li (L2 := [(0, .ref (base + 121)), (1, .int (a1)), (2, .int (a2)), (3, .long (a3)), (5, .long (a4)), (7, .int (l7i)), (8, .int (l8i)), (9, .long (l9l)), (11, .long (l11l))]) [0, 1, 2, 3, 4, 5, 6, 7, 8] (rX12_acts_395 hkb a1 a2 a3 a4 (l7i) (l9l) (l8i) (l11l) n sl SH FI FL FR hok  ) ⟨rfl, rfl, rfl, rfl, rfl, rfl, rfl, rfl, rfl, trivial⟩
    · skip
      refine pw_aloadn (aX12_acts 208 rfl) rfl ?_
      refine pw_iloadn (aX12_acts 209 rfl) rfl ?_
      refine pw_iconst (v := (2 : Int32)) (aX12_acts 210 rfl) rfl ?_
      refine pw_iloadn (aX12_acts 211 rfl) rfl ?_
      refine pw_bipush (v := (80 : Int32)) (aX12_acts 212 rfl) rfl ?_
      refine pw_isub (aX12_acts 213 rfl) ?_
      refine pw_i2l (aX12_acts 214 rfl) ?_
      refine pw_iconst (v := (0 : Int32)) (aX12_acts 215 rfl) rfl ?_
      refine pw_callV (Bs := [.int (a1), .int ((2 : Int32)), .long (((a2) - ((80 : Int32))).toInt64), .int ((0 : Int32))]) (rest := []) (aX12_acts 216 rfl) um_RX12_350 ujX12_hold wc_RX12_350.2.2.2.2 (by decide) (by decide) rfl rfl (fun d => rX12_hold hkb (a1) ((2 : Int32)) (((a2) - ((80 : Int32))).toInt64) ((0 : Int32)) n sl SH FI FL FR hok) (fun v2 n2 sl2 SH2 FI2 FL2 FR2 hok2 _ => ?_)
      show pw _ _ _ _ _ _ _ 392 _ [] _ _
      refine pw_goto (tgt := 459) (aX12_acts 217 rfl) (by decide) ?_
      exact pw_vret (aX12_acts 255 rfl) hok2
set_option maxHeartbeats 4000000 in
set_option maxRecDepth 100000 in
theorem rX12_acts_57 {sk : xK} {base N d : Nat}  (hkb : x_kb sk base) (a1 : Int32) (a2 : Int32) (a3 : Int64) (a4 : Int64) (l7i : Int32) (l8i : Int32) (l9l : Int64) (s0l : Int64)  (n sl : Nat) (SH : Nat → Nat × Nat) (FI : Nat → Nat → Int32) (FL : Nat → Nat → Int64) (FR : Nat → Nat → Option Nat) (hok : pk n SH FR)   : pw pj_V sk base N d none 184 57 [(0, .ref (base + 121)), (1, .int (a1)), (2, .int (a2)), (3, .long (a3)), (5, .long (a4)), (7, .int (l7i)), (8, .int (l8i)), (9, .long (l9l))] [.long (s0l)] (n, sl, SH, FI, FL, FR) (RX12_acts_57  a1 a2 a3 a4 l7i l8i l9l s0l n sl SH FI FL FR) := by
  unfold RX12_acts_57
  refine pw_lstore (L2 := [(11, .long (s0l)), (0, .ref (base + 121)), (1, .int (a1)), (2, .int (a2)), (3, .long (a3)), (5, .long (a4)), (7, .int (l7i)), (8, .int (l8i)), (9, .long (l9l))]) (aX12_acts 33 rfl) rfl ?_
  refine pw_iloadn (aX12_acts 34 rfl) rfl ?_
  refine pw_bipush (v := (19 : Int32)) (aX12_acts 35 rfl) rfl ?_
  refine pw_iceq (tgt := 71) (aX12_acts 36 rfl) (by decide) (fun b0 => ?_) (fun b0 => ?_)
  · skip
    refine pw_aloadn (aX12_acts 40 rfl) rfl ?_
    refine pw_getr (v := .ref (base + 128)) (aX12_acts 41 rfl) uf_RX12_36 un_RX12_36 (congrArg (fun r => va_rf (h_rf base r)) (q121_15 (hok).2.1)) ?_
    refine pw_iloadn (aX12_acts 42 rfl) rfl ?_
    refine pw_iload (aX12_acts 43 rfl) rfl ?_
    refine pw_iconst (v := (1 : Int32)) (aX12_acts 44 rfl) rfl ?_
    refine pw_isub (aX12_acts 45 rfl) ?_
    refine pw_iastr (c := 128) (ix := (a1).toInt.toNat) (aX12_acts 46 rfl) rfl (fun _ => ?_)
    refine pw_goto (tgt := 459) (aX12_acts 47 rfl) (by decide) ?_
    exact pw_vret (aX12_acts 255 rfl) hok
  · skip
    refine pw_iloadn (aX12_acts 37 rfl) rfl ?_
    refine pw_bipush (v := (40 : Int32)) (aX12_acts 38 rfl) rfl ?_
    refine pw_icne (tgt := 84) (aX12_acts 39 rfl) (by decide) (fun b1 => ?_) (fun b1 => ?_)
    · skip
      refine pw_aloadn (aX12_acts 40 rfl) rfl ?_
      refine pw_getr (v := .ref (base + 128)) (aX12_acts 41 rfl) uf_RX12_36 un_RX12_36 (congrArg (fun r => va_rf (h_rf base r)) (q121_15 (hok).2.1)) ?_
      refine pw_iloadn (aX12_acts 42 rfl) rfl ?_
      refine pw_iload (aX12_acts 43 rfl) rfl ?_
      refine pw_iconst (v := (1 : Int32)) (aX12_acts 44 rfl) rfl ?_
      refine pw_isub (aX12_acts 45 rfl) ?_
      refine pw_iastr (c := 128) (ix := (a1).toInt.toNat) (aX12_acts 46 rfl) rfl (fun _ => ?_)
      refine pw_goto (tgt := 459) (aX12_acts 47 rfl) (by decide) ?_
      exact pw_vret (aX12_acts 255 rfl) hok
    · skip
      refine pw_iloadn (aX12_acts 48 rfl) rfl ?_
      refine pw_bipush (v := (22 : Int32)) (aX12_acts 49 rfl) rfl ?_
      refine pw_icne (tgt := 113) (aX12_acts 50 rfl) (by decide) (fun b2 => ?_) (fun b2 => ?_)
      · skip
        refine pw_aloadn (aX12_acts 51 rfl) rfl ?_
        refine pw_getr (v := .ref (base + 127)) (aX12_acts 52 rfl) uf_RX12_33 un_RX12_33 (congrArg (fun r => va_rf (h_rf base r)) (q121_14 (hok).2.1)) ?_
        refine pw_iload (aX12_acts 53 rfl) rfl ?_
        refine pw_lload (aX12_acts 54 rfl) rfl ?_
        refine pw_lastr (c := 127) (ix := (l8i).toInt.toNat) (aX12_acts 55 rfl) rfl (fun _ => ?_)
        refine pw_aloadn (aX12_acts 56 rfl) rfl ?_
        refine pw_getr (v := .ref (base + 127)) (aX12_acts 57 rfl) uf_RX12_33 un_RX12_33 (congrArg (fun r => va_rf (h_rf base r)) (q121_14 (hok).2.1)) ?_
        refine pw_iload (aX12_acts 58 rfl) rfl ?_
        refine pw_iconst (v := (1 : Int32)) (aX12_acts 59 rfl) rfl ?_
        refine pw_isub (aX12_acts 60 rfl) ?_
        refine pw_lload (aX12_acts 61 rfl) rfl ?_
        refine pw_lastr (c := 127) (ix := ((l8i) - ((1 : Int32))).toInt.toNat) (aX12_acts 62 rfl) rfl (fun _ => ?_)
        refine pw_goto (tgt := 459) (aX12_acts 63 rfl) (by decide) ?_
        exact pw_vret (aX12_acts 255 rfl) hok
      · skip
        refine pw_iloadn (aX12_acts 64 rfl) rfl ?_
        refine pw_bipush (v := (23 : Int32)) (aX12_acts 65 rfl) rfl ?_
        refine pw_icne (tgt := 160) (aX12_acts 66 rfl) (by decide) (fun b3 => ?_) (fun b3 => ?_)
        · skip
          refine pw_aloadn (aX12_acts 67 rfl) rfl ?_
          refine pw_getr (v := .ref (base + 127)) (aX12_acts 68 rfl) uf_RX12_33 un_RX12_33 (congrArg (fun r => va_rf (h_rf base r)) (q121_14 (hok).2.1)) ?_
          refine pw_iload (aX12_acts 69 rfl) rfl ?_
          refine pw_lload (aX12_acts 70 rfl) rfl ?_
          refine pw_lastr (c := 127) (ix := (l8i).toInt.toNat) (aX12_acts 71 rfl) rfl (fun _ => ?_)
          refine pw_aloadn (aX12_acts 72 rfl) rfl ?_
          refine pw_getr (v := .ref (base + 127)) (aX12_acts 73 rfl) uf_RX12_33 un_RX12_33 (congrArg (fun r => va_rf (h_rf base r)) (q121_14 (hok).2.1)) ?_
          refine pw_iload (aX12_acts 74 rfl) rfl ?_
          refine pw_iconst (v := (1 : Int32)) (aX12_acts 75 rfl) rfl ?_
          refine pw_isub (aX12_acts 76 rfl) ?_
          refine pw_aloadn (aX12_acts 77 rfl) rfl ?_
          refine pw_getr (v := .ref (base + 127)) (aX12_acts 78 rfl) uf_RX12_33 un_RX12_33 (congrArg (fun r => va_rf (h_rf base r)) (q121_14 (hok).2.1)) ?_
          refine pw_iload (aX12_acts 79 rfl) rfl ?_
          refine pw_iconst (v := (2 : Int32)) (aX12_acts 80 rfl) rfl ?_
          refine pw_isub (aX12_acts 81 rfl) ?_
          refine pw_laldr (c := 127) (ix := ((l8i) - ((2 : Int32))).toInt.toNat) (aX12_acts 82 rfl) rfl (fun _ => ?_)
          refine pw_lastr (c := 127) (ix := ((l8i) - ((1 : Int32))).toInt.toNat) (aX12_acts 83 rfl) rfl (fun _ => ?_)
          refine pw_aloadn (aX12_acts 84 rfl) rfl ?_
          refine pw_getr (v := .ref (base + 127)) (aX12_acts 85 rfl) uf_RX12_33 un_RX12_33 (congrArg (fun r => va_rf (h_rf base r)) (q121_14 (hok).2.1)) ?_
          refine pw_iload (aX12_acts 86 rfl) rfl ?_
          refine pw_iconst (v := (2 : Int32)) (aX12_acts 87 rfl) rfl ?_
          refine pw_isub (aX12_acts 88 rfl) ?_
          refine pw_lload (aX12_acts 89 rfl) rfl ?_
          refine pw_lastr (c := 127) (ix := ((l8i) - ((2 : Int32))).toInt.toNat) (aX12_acts 90 rfl) rfl (fun _ => ?_)
          refine pw_goto (tgt := 459) (aX12_acts 91 rfl) (by decide) ?_
          exact pw_vret (aX12_acts 255 rfl) hok
        · skip
          refine pw_iloadn (aX12_acts 92 rfl) rfl ?_
          refine pw_bipush (v := (6 : Int32)) (aX12_acts 93 rfl) rfl ?_
          refine pw_icne (tgt := 184) (aX12_acts 94 rfl) (by decide) (fun b4 => ?_) (fun b4 => ?_)
          · skip
            refine pw_aloadn (aX12_acts 95 rfl) rfl ?_
            refine pw_getr (v := .ref (base + 127)) (aX12_acts 96 rfl) uf_RX12_33 un_RX12_33 (congrArg (fun r => va_rf (h_rf base r)) (q121_14 (hok).2.1)) ?_
            refine pw_iload (aX12_acts 97 rfl) rfl ?_
            refine pw_aloadn (aX12_acts 98 rfl) rfl ?_
            refine pw_lload (aX12_acts 99 rfl) rfl ?_
            refine pw_bipush (v := (8 : Int32)) (aX12_acts 100 rfl) rfl ?_
            refine pw_callV (Bs := [.long (l9l), .int ((8 : Int32))]) (rest := [.int (l8i), .ref (base + 127)]) (aX12_acts 101 rfl) um_RX12_342 ujX12_read wc_RX12_342.2.2.2.2 (by decide) (by decide) rfl rfl (fun d => rX12_read hkb (l9l) ((8 : Int32)) n sl SH FI FL FR hok) (fun v5 n5 sl5 SH5 FI5 FL5 FR5 hok5 _ => ?_)
            show pw _ _ _ _ _ _ _ 180 _ [.long (v5), .int (l8i), .ref (base + 127)] _ _
            refine pw_lastr (c := 127) (ix := (l8i).toInt.toNat) (aX12_acts 102 rfl) rfl (fun _ => ?_)
            refine pw_goto (tgt := 459) (aX12_acts 103 rfl) (by decide) ?_
            exact pw_vret (aX12_acts 255 rfl) hok5
          · skip
            refine pw_iloadn (aX12_acts 104 rfl) rfl ?_
            refine pw_sipush (v := (148 : Int32)) (aX12_acts 105 rfl) rfl ?_
            refine pw_icne (tgt := 209) (aX12_acts 106 rfl) (by decide) (fun b6 => ?_) (fun b6 => ?_)
            · skip
              refine pw_aloadn (aX12_acts 107 rfl) rfl ?_
              refine pw_getr (v := .ref (base + 127)) (aX12_acts 108 rfl) uf_RX12_33 un_RX12_33 (congrArg (fun r => va_rf (h_rf base r)) (q121_14 (hok).2.1)) ?_
              refine pw_iload (aX12_acts 109 rfl) rfl ?_
              refine pw_aloadn (aX12_acts 110 rfl) rfl ?_
              refine pw_lload (aX12_acts 111 rfl) rfl ?_
              refine pw_lloadn (aX12_acts 112 rfl) rfl ?_
              refine pw_l2i (aX12_acts 113 rfl) ?_
              refine pw_callV (Bs := [.long (l9l), .int ((a3).toInt32)]) (rest := [.int (l8i), .ref (base + 127)]) (aX12_acts 114 rfl) um_RX12_342 ujX12_read wc_RX12_342.2.2.2.2 (by decide) (by decide) rfl rfl (fun d => rX12_read hkb (l9l) ((a3).toInt32) n sl SH FI FL FR hok) (fun v7 n7 sl7 SH7 FI7 FL7 FR7 hok7 _ => ?_)
              show pw _ _ _ _ _ _ _ 205 _ [.long (v7), .int (l8i), .ref (base + 127)] _ _
              refine pw_lastr (c := 127) (ix := (l8i).toInt.toNat) (aX12_acts 115 rfl) rfl (fun _ => ?_)
              refine pw_goto (tgt := 459) (aX12_acts 116 rfl) (by decide) ?_
              exact pw_vret (aX12_acts 255 rfl) hok7
            · skip
              refine pw_iloadn (aX12_acts 117 rfl) rfl ?_
              refine pw_bipush (v := (25 : Int32)) (aX12_acts 118 rfl) rfl ?_
              refine pw_icne (tgt := 240) (aX12_acts 119 rfl) (by decide) (fun b8 => ?_) (fun b8 => ?_)
              · skip
                refine pw_aloadn (aX12_acts 120 rfl) rfl ?_
                refine pw_getr (v := .ref (base + 127)) (aX12_acts 121 rfl) uf_RX12_33 un_RX12_33 (congrArg (fun r => va_rf (h_rf base r)) (q121_14 (hok).2.1)) ?_
                refine pw_iload (aX12_acts 122 rfl) rfl ?_
                refine pw_lload (aX12_acts 123 rfl) rfl ?_
                refine pw_lconst (v := (0 : Int64)) (aX12_acts 124 rfl) rfl ?_
                refine pw_lcge (tgt := 234) (aX12_acts 125 rfl) (aX12_acts 126 rfl) (by decide) (fun b9 => ?_) (fun b9 => ?_)
                · skip
                  refine pw_lload (aX12_acts 127 rfl) rfl ?_
                  refine pw_lneg (aX12_acts 128 rfl) ?_
                  refine pw_goto (tgt := 236) (aX12_acts 129 rfl) (by decide) ?_
                  refine pw_lastr (c := 127) (ix := (l8i).toInt.toNat) (aX12_acts 131 rfl) rfl (fun _ => ?_)
                  refine pw_goto (tgt := 459) (aX12_acts 132 rfl) (by decide) ?_
                  exact pw_vret (aX12_acts 255 rfl) hok
                · skip
                  refine pw_lload (aX12_acts 130 rfl) rfl ?_
                  refine pw_lastr (c := 127) (ix := (l8i).toInt.toNat) (aX12_acts 131 rfl) rfl (fun _ => ?_)
                  refine pw_goto (tgt := 459) (aX12_acts 132 rfl) (by decide) ?_
                  exact pw_vret (aX12_acts 255 rfl) hok
              · skip
                refine pw_iloadn (aX12_acts 133 rfl) rfl ?_
                refine pw_bipush (v := (31 : Int32)) (aX12_acts 134 rfl) rfl ?_
                refine pw_icne (tgt := 259) (aX12_acts 135 rfl) (by decide) (fun b10 => ?_) (fun b10 => ?_)
                · skip
                  refine pw_aloadn (aX12_acts 136 rfl) rfl ?_
                  refine pw_getr (v := .ref (base + 127)) (aX12_acts 137 rfl) uf_RX12_33 un_RX12_33 (congrArg (fun r => va_rf (h_rf base r)) (q121_14 (hok).2.1)) ?_
                  refine pw_iload (aX12_acts 138 rfl) rfl ?_
                  refine pw_lload (aX12_acts 139 rfl) rfl ?_
                  refine pw_lneg (aX12_acts 140 rfl) ?_
                  refine pw_lastr (c := 127) (ix := (l8i).toInt.toNat) (aX12_acts 141 rfl) rfl (fun _ => ?_)
                  refine pw_goto (tgt := 459) (aX12_acts 142 rfl) (by decide) ?_
                  exact pw_vret (aX12_acts 255 rfl) hok
                · skip
                  refine pw_iloadn (aX12_acts 143 rfl) rfl ?_
                  refine pw_bipush (v := (32 : Int32)) (aX12_acts 144 rfl) rfl ?_
                  refine pw_icne (tgt := 281) (aX12_acts 145 rfl) (by decide) (fun b11 => ?_) (fun b11 => ?_)
                  · skip
                    refine pw_aloadn (aX12_acts 146 rfl) rfl ?_
                    refine pw_getr (v := .ref (base + 127)) (aX12_acts 147 rfl) uf_RX12_33 un_RX12_33 (congrArg (fun r => va_rf (h_rf base r)) (q121_14 (hok).2.1)) ?_
                    refine pw_iload (aX12_acts 148 rfl) rfl ?_
                    refine pw_lload (aX12_acts 149 rfl) rfl ?_
                    refine pw_ldc2 (v := (-1 : Int64)) (aX12_acts 150 rfl) uk_RX12_226 ?_
                    refine pw_lxor (aX12_acts 151 rfl) ?_
                    refine pw_lastr (c := 127) (ix := (l8i).toInt.toNat) (aX12_acts 152 rfl) rfl (fun _ => ?_)
                    refine pw_goto (tgt := 459) (aX12_acts 153 rfl) (by decide) ?_
                    exact pw_vret (aX12_acts 255 rfl) hok
                  · skip
                    refine pw_iloadn (aX12_acts 154 rfl) rfl ?_
                    refine pw_bipush (v := (35 : Int32)) (aX12_acts 155 rfl) rfl ?_
                    refine pw_icne (tgt := 301) (aX12_acts 156 rfl) (by decide) (fun b12 => ?_) (fun b12 => ?_)
                    · skip
                      refine pw_aloadn (aX12_acts 157 rfl) rfl ?_
                      refine pw_getr (v := .ref (base + 127)) (aX12_acts 158 rfl) uf_RX12_33 un_RX12_33 (congrArg (fun r => va_rf (h_rf base r)) (q121_14 (hok).2.1)) ?_
                      refine pw_iload (aX12_acts 159 rfl) rfl ?_
                      refine pw_lload (aX12_acts 160 rfl) rfl ?_
                      refine pw_lloadn (aX12_acts 161 rfl) rfl ?_
                      refine pw_ladd (aX12_acts 162 rfl) ?_
                      refine pw_lastr (c := 127) (ix := (l8i).toInt.toNat) (aX12_acts 163 rfl) rfl (fun _ => ?_)
                      refine pw_goto (tgt := 459) (aX12_acts 164 rfl) (by decide) ?_
                      exact pw_vret (aX12_acts 255 rfl) hok
                    · skip
                      refine pw_iloadn (aX12_acts 165 rfl) rfl ?_
                      refine pw_sipush (v := (155 : Int32)) (aX12_acts 166 rfl) rfl ?_
                      refine pw_icne (tgt := 325) (aX12_acts 167 rfl) (by decide) (fun b13 => ?_) (fun b13 => ?_)
                      · skip
                        refine pw_aloadn (aX12_acts 168 rfl) rfl ?_
                        refine pw_getr (v := .ref (base + 127)) (aX12_acts 169 rfl) uf_RX12_33 un_RX12_33 (congrArg (fun r => va_rf (h_rf base r)) (q121_14 (hok).2.1)) ?_
                        refine pw_iload (aX12_acts 170 rfl) rfl ?_
                        refine pw_aloadn (aX12_acts 171 rfl) rfl ?_
                        refine pw_getr (v := .long (FL 121 9)) (aX12_acts 172 rfl) uf_RX12_212 un_RX12_212 rfl ?_
                        refine pw_lload (aX12_acts 173 rfl) rfl ?_
                        refine pw_ladd (aX12_acts 174 rfl) ?_
                        refine pw_lastr (c := 127) (ix := (l8i).toInt.toNat) (aX12_acts 175 rfl) rfl (fun _ => ?_)
                        refine pw_goto (tgt := 459) (aX12_acts 176 rfl) (by decide) ?_
                        exact pw_vret (aX12_acts 255 rfl) hok
                      · skip
                        refine pw_iloadn (aX12_acts 177 rfl) rfl ?_
                        refine pw_bipush (v := (26 : Int32)) (aX12_acts 178 rfl) rfl ?_
                        refine pw_iclt (tgt := 368) (aX12_acts 179 rfl) (by decide) (fun b14 => ?_) (fun b14 => ?_)
                        · skip
                          exact pw_Li (L2 := [(0, .ref (base + 121)), (1, .int (a1)), (2, .int (a2)), (3, .long (a3)), (5, .long (a4)), (7, .int (l7i)), (8, .int (l8i)), (9, .long (l9l)), (11, .long (s0l))]) [8, 0, 1, 2, 3, 4, 5, 6, 7] (rX12_acts_368 hkb a1 a2 a3 a4 (l7i) (l9l) (l8i) (s0l) n sl SH FI FL FR hok  ) ⟨rfl, rfl, rfl, rfl, rfl, rfl, rfl, rfl, rfl, trivial⟩
                        · skip
                          refine pw_iloadn (aX12_acts 180 rfl) rfl ?_
                          refine pw_bipush (v := (46 : Int32)) (aX12_acts 181 rfl) rfl ?_
                          refine pw_icgt (tgt := 368) (aX12_acts 182 rfl) (by decide) (fun b15 => ?_) (fun b15 => ?_)
                          · skip
                            exact pw_Li (L2 := [(0, .ref (base + 121)), (1, .int (a1)), (2, .int (a2)), (3, .long (a3)), (5, .long (a4)), (7, .int (l7i)), (8, .int (l8i)), (9, .long (l9l)), (11, .long (s0l))]) [8, 0, 1, 2, 3, 4, 5, 6, 7] (rX12_acts_368 hkb a1 a2 a3 a4 (l7i) (l9l) (l8i) (s0l) n sl SH FI FL FR hok  ) ⟨rfl, rfl, rfl, rfl, rfl, rfl, rfl, rfl, rfl, trivial⟩
                          · skip
                            refine pw_aloadn (aX12_acts 183 rfl) rfl ?_
                            refine pw_getr (v := .ref (base + 128)) (aX12_acts 184 rfl) uf_RX12_36 un_RX12_36 (congrArg (fun r => va_rf (h_rf base r)) (q121_15 (hok).2.1)) ?_
                            refine pw_iloadn (aX12_acts 185 rfl) rfl ?_
                            refine pw_iload (aX12_acts 186 rfl) rfl ?_
                            refine pw_iconst (v := (1 : Int32)) (aX12_acts 187 rfl) rfl ?_
                            refine pw_isub (aX12_acts 188 rfl) ?_
                            refine pw_iastr (c := 128) (ix := (a1).toInt.toNat) (aX12_acts 189 rfl) rfl (fun _ => ?_)
                            refine pw_aloadn (aX12_acts 190 rfl) rfl ?_
                            refine pw_getr (v := .ref (base + 127)) (aX12_acts 191 rfl) uf_RX12_33 un_RX12_33 (congrArg (fun r => va_rf (h_rf base r)) (q121_14 (hok).2.1)) ?_
                            refine pw_iload (aX12_acts 192 rfl) rfl ?_
                            refine pw_iconst (v := (1 : Int32)) (aX12_acts 193 rfl) rfl ?_
                            refine pw_isub (aX12_acts 194 rfl) ?_
                            refine pw_aloadn (aX12_acts 195 rfl) rfl ?_
                            refine pw_iloadn (aX12_acts 196 rfl) rfl ?_
                            refine pw_lload (aX12_acts 197 rfl) rfl ?_
                            refine pw_lload (aX12_acts 198 rfl) rfl ?_
                            refine pw_cf (pw_callV (Bs := [.int (a2), .long (s0l), .long (l9l)]) (rest := [.int ((l8i) - ((1 : Int32))), .ref (base + 127)]) (aX12_acts 199 rfl) um_RX12_346 ujX12_worked wc_RX12_346.2.2.2.2 (by decide) (by decide) rfl rfl (fun d => rX12_worked hkb (a2) (s0l) (l9l) n sl SH (h_up FI 128 (a1).toInt.toNat ((l7i) - ((1 : Int32)))) FL FR hok) (fun v16 n16 sl16 SH16 FI16 FL16 FR16 _ hC => ?_))
                            obtain ⟨rfl, hC⟩ := hC; cases hC
                            show pw _ _ _ _ _ _ _ 364 _ [.long (fX12_worked (a2) (s0l) (l9l) SH (h_up FI 128 (a1).toInt.toNat ((l7i) - ((1 : Int32)))) FL FR), .int ((l8i) - ((1 : Int32))), .ref (base + 127)] _ _
                            refine pw_lastr (c := 127) (ix := ((l8i) - ((1 : Int32))).toInt.toNat) (aX12_acts 200 rfl) rfl (fun _ => ?_)
                            refine pw_goto (tgt := 459) (aX12_acts 201 rfl) (by decide) ?_
                            exact pw_vret (aX12_acts 255 rfl) hok
set_option maxHeartbeats 4000000 in
set_option maxRecDepth 100000 in
theorem rX12_acts_36 {sk : xK} {base N d : Nat}  (hkb : x_kb sk base) (a1 : Int32) (a2 : Int32) (a3 : Int64) (a4 : Int64) (l7i : Int32) (l8i : Int32) (s0l : Int64)  (n sl : Nat) (SH : Nat → Nat × Nat) (FI : Nat → Nat → Int32) (FL : Nat → Nat → Int64) (FR : Nat → Nat → Option Nat) (hok : pk n SH FR)   : pw pj_V sk base N d none 184 36 [(0, .ref (base + 121)), (1, .int (a1)), (2, .int (a2)), (3, .long (a3)), (5, .long (a4)), (7, .int (l7i)), (8, .int (l8i))] [.long (s0l)] (n, sl, SH, FI, FL, FR) (RX12_acts_36  a1 a2 a3 a4 l7i l8i s0l n sl SH FI FL FR) := by
  unfold RX12_acts_36
  refine pw_lstore (L2 := [(9, .long (s0l)), (0, .ref (base + 121)), (1, .int (a1)), (2, .int (a2)), (3, .long (a3)), (5, .long (a4)), (7, .int (l7i)), (8, .int (l8i))]) (aX12_acts 21 rfl) rfl ?_
  refine pw_iload (aX12_acts 22 rfl) rfl ?_
  refine pw_iconst (v := (1 : Int32)) (aX12_acts 23 rfl) rfl ?_
  refine pw_icle (tgt := 56) (aX12_acts 24 rfl) (by decide) (fun b0 => ?_) (fun b0 => ?_)
  · skip
    refine pw_aloadn (aX12_acts 25 rfl) rfl ?_
    refine pw_getr (v := .ref (base + 127)) (aX12_acts 26 rfl) uf_RX12_33 un_RX12_33 (congrArg (fun r => va_rf (h_rf base r)) (q121_14 (hok).2.1)) ?_
    refine pw_iload (aX12_acts 27 rfl) rfl ?_
    refine pw_iconst (v := (1 : Int32)) (aX12_acts 28 rfl) rfl ?_
    refine pw_isub (aX12_acts 29 rfl) ?_
    refine pw_laldr (c := 127) (ix := ((l8i) - ((1 : Int32))).toInt.toNat) (aX12_acts 30 rfl) rfl (fun _ => ?_)
    refine pw_goto (tgt := 57) (aX12_acts 31 rfl) (by decide) ?_
    exact pw_Li (L2 := [(0, .ref (base + 121)), (1, .int (a1)), (2, .int (a2)), (3, .long (a3)), (5, .long (a4)), (7, .int (l7i)), (8, .int (l8i)), (9, .long (s0l))]) [7, 0, 1, 2, 3, 4, 5, 6] (rX12_acts_57 hkb a1 a2 a3 a4 (l7i) (l8i) (s0l) (FL 127 ((l8i) - ((1 : Int32))).toInt.toNat) n sl SH FI FL FR hok  ) ⟨rfl, rfl, rfl, rfl, rfl, rfl, rfl, rfl, trivial⟩
  · skip
    refine pw_lconst (v := (0 : Int64)) (aX12_acts 32 rfl) rfl ?_
    exact pw_Li (L2 := [(0, .ref (base + 121)), (1, .int (a1)), (2, .int (a2)), (3, .long (a3)), (5, .long (a4)), (7, .int (l7i)), (8, .int (l8i)), (9, .long (s0l))]) [7, 0, 1, 2, 3, 4, 5, 6] (rX12_acts_57 hkb a1 a2 a3 a4 (l7i) (l8i) (s0l) ((0 : Int64)) n sl SH FI FL FR hok  ) ⟨rfl, rfl, rfl, rfl, rfl, rfl, rfl, rfl, trivial⟩
set_option maxHeartbeats 4000000 in
set_option maxRecDepth 100000 in
theorem rX12_acts {sk : xK} {base N d : Nat} (hkb : x_kb sk base) (a1 : Int32) (a2 : Int32) (a3 : Int64) (a4 : Int64) (n sl : Nat) (SH : Nat → Nat × Nat) (FI : Nat → Nat → Int32) (FL : Nat → Nat → Int64) (FR : Nat → Nat → Option Nat) (hok : pk n SH FR)  : pw pj_V sk base N d none 184 0 [(0, .ref (base + 121)), (1, .int (a1)), (2, .int (a2)), (3, .long (a3)), (5, .long (a4))] [] (n, sl, SH, FI, FL, FR) (RX12_acts a1 a2 a3 a4 n sl SH FI FL FR) := by
  unfold RX12_acts
  refine pw_aloadn (aX12_acts 0 rfl) rfl ?_
  refine pw_getr (v := .ref (base + 128)) (aX12_acts 1 rfl) uf_RX12_36 un_RX12_36 (congrArg (fun r => va_rf (h_rf base r)) (q121_15 (hok).2.1)) ?_
  refine pw_iloadn (aX12_acts 2 rfl) rfl ?_
  refine pw_ialdr (c := 128) (ix := (a1).toInt.toNat) (aX12_acts 3 rfl) rfl (fun _ => ?_)
  refine pw_istore (L2 := [(7, .int (FI 128 (a1).toInt.toNat)), (0, .ref (base + 121)), (1, .int (a1)), (2, .int (a2)), (3, .long (a3)), (5, .long (a4))]) (aX12_acts 4 rfl) rfl ?_
  refine pw_sipush (v := (128 : Int32)) (aX12_acts 5 rfl) rfl ?_
  refine pw_iloadn (aX12_acts 6 rfl) rfl ?_
  refine pw_imul (aX12_acts 7 rfl) ?_
  refine pw_iload (aX12_acts 8 rfl) rfl ?_
  refine pw_iadd (aX12_acts 9 rfl) ?_
  refine pw_iconst (v := (1 : Int32)) (aX12_acts 10 rfl) rfl ?_
  refine pw_isub (aX12_acts 11 rfl) ?_
  refine pw_istore (L2 := [(8, .int (((((128 : Int32)) * (a1)) + (FI 128 (a1).toInt.toNat)) - ((1 : Int32)))), (7, .int (FI 128 (a1).toInt.toNat)), (0, .ref (base + 121)), (1, .int (a1)), (2, .int (a2)), (3, .long (a3)), (5, .long (a4))]) (aX12_acts 12 rfl) rfl ?_
  refine pw_iload (aX12_acts 13 rfl) rfl ?_
  refine pw_ifle (tgt := 35) (aX12_acts 14 rfl) (by decide) (fun b0 => ?_) (fun b0 => ?_)
  · skip
    refine pw_aloadn (aX12_acts 15 rfl) rfl ?_
    refine pw_getr (v := .ref (base + 127)) (aX12_acts 16 rfl) uf_RX12_33 un_RX12_33 (congrArg (fun r => va_rf (h_rf base r)) (q121_14 (hok).2.1)) ?_
    refine pw_iload (aX12_acts 17 rfl) rfl ?_
    refine pw_laldr (c := 127) (ix := (((((128 : Int32)) * (a1)) + (FI 128 (a1).toInt.toNat)) - ((1 : Int32))).toInt.toNat) (aX12_acts 18 rfl) rfl (fun _ => ?_)
    refine pw_goto (tgt := 36) (aX12_acts 19 rfl) (by decide) ?_
    exact pw_Li (L2 := [(0, .ref (base + 121)), (1, .int (a1)), (2, .int (a2)), (3, .long (a3)), (5, .long (a4)), (7, .int (FI 128 (a1).toInt.toNat)), (8, .int (((((128 : Int32)) * (a1)) + (FI 128 (a1).toInt.toNat)) - ((1 : Int32))))]) [6, 5, 0, 1, 2, 3, 4] (rX12_acts_36 hkb a1 a2 a3 a4 (FI 128 (a1).toInt.toNat) (((((128 : Int32)) * (a1)) + (FI 128 (a1).toInt.toNat)) - ((1 : Int32))) (FL 127 (((((128 : Int32)) * (a1)) + (FI 128 (a1).toInt.toNat)) - ((1 : Int32))).toInt.toNat) n sl SH FI FL FR hok  ) ⟨rfl, rfl, rfl, rfl, rfl, rfl, rfl, trivial⟩
  · skip
    refine pw_lconst (v := (0 : Int64)) (aX12_acts 20 rfl) rfl ?_
    exact pw_Li (L2 := [(0, .ref (base + 121)), (1, .int (a1)), (2, .int (a2)), (3, .long (a3)), (5, .long (a4)), (7, .int (FI 128 (a1).toInt.toNat)), (8, .int (((((128 : Int32)) * (a1)) + (FI 128 (a1).toInt.toNat)) - ((1 : Int32))))]) [6, 5, 0, 1, 2, 3, 4] (rX12_acts_36 hkb a1 a2 a3 a4 (FI 128 (a1).toInt.toNat) (((((128 : Int32)) * (a1)) + (FI 128 (a1).toInt.toNat)) - ((1 : Int32))) ((0 : Int64)) n sl SH FI FL FR hok  ) ⟨rfl, rfl, rfl, rfl, rfl, rfl, rfl, trivial⟩
set_option maxHeartbeats 4000000 in
set_option maxRecDepth 100000 in
theorem rX12_exec_153 {sk : xK} {base N d : Nat}  (hkb : x_kb sk base) (a1 : Int32) (a2 : Int32) (a3 : Int32) (l4i : Int32) (l5i : Int32) (l6i : Int32) (l7i : Int32) (l8i : Int32) (l9i : Int32) (l10i : Int32) (l11i : Int32) (l12l : Int64) (l14l : Int64) (l16i : Int32) (l17l : Int64) (l19l : Int64) (l21i : Int32) (l22l : Int64) (n sl : Nat) (SH : Nat → Nat × Nat) (FI : Nat → Nat → Int32) (FL : Nat → Nat → Int64) (FR : Nat → Nat → Option Nat) (hok : pk n SH FR)   : pw pj_I sk base N d none 181 153 [(0, .ref (base + 121)), (1, .int (a1)), (2, .int (a2)), (3, .int (a3)), (4, .int (l4i)), (5, .int (l5i)), (6, .int (l6i)), (7, .int (l7i)), (8, .int (l8i)), (9, .int (l9i)), (10, .int (l10i)), (11, .int (l11i)), (12, .long (l12l)), (14, .long (l14l)), (16, .int (l16i)), (17, .long (l17l)), (19, .long (l19l)), (21, .int (l21i)), (22, .long (l22l))] [] (n, sl, SH, FI, FL, FR) (RX12_exec_153  a1 a2 a3 l4i n sl SH FI FL FR) := by
  unfold RX12_exec_153
  refine pw_aloadn (aX12_exec 82 rfl) rfl ?_
  refine pw_bipush (v := (13 : Int32)) (aX12_exec 83 rfl) rfl ?_
  refine pw_iload (aX12_exec 84 rfl) rfl ?_
  refine pw_ifne (tgt := 167) (aX12_exec 85 rfl) (by decide) (fun b0 => ?_) (fun b0 => ?_)
  · skip
    refine pw_iloadn (aX12_exec 86 rfl) rfl ?_
    refine pw_iloadn (aX12_exec 87 rfl) rfl ?_
    refine pw_isub (aX12_exec 88 rfl) ?_
    refine pw_goto (tgt := 171) (aX12_exec 89 rfl) (by decide) ?_
    refine pw_callV (Bs := [.int ((13 : Int32)), .int ((a3) - (a2))]) (rest := []) (aX12_exec 92 rfl) um_RX12_270 ujX12_fails wc_RX12_270.2.2.2.2 (by decide) (by decide) rfl rfl (fun d => rX12_fails hkb ((13 : Int32)) ((a3) - (a2)) n sl SH FI FL FR hok) (fun v1 n1 sl1 SH1 FI1 FL1 FR1 hok1 _ => ?_)
    show pw _ _ _ _ _ _ _ 174 _ [.int (v1)] _ _
    exact pw_iret (aX12_exec 93 rfl) hok1
  · skip
    refine pw_aloadn (aX12_exec 90 rfl) rfl ?_
    refine pw_getr (v := .int (FI 121 33)) (aX12_exec 91 rfl) uf_RX12_267 un_RX12_267 rfl ?_
    refine pw_callV (Bs := [.int ((13 : Int32)), .int (FI 121 33)]) (rest := []) (aX12_exec 92 rfl) um_RX12_270 ujX12_fails wc_RX12_270.2.2.2.2 (by decide) (by decide) rfl rfl (fun d => rX12_fails hkb ((13 : Int32)) (FI 121 33) n sl SH FI FL FR hok) (fun v2 n2 sl2 SH2 FI2 FL2 FR2 hok2 _ => ?_)
    show pw _ _ _ _ _ _ _ 174 _ [.int (v2)] _ _
    exact pw_iret (aX12_exec 93 rfl) hok2
set_option maxHeartbeats 4000000 in
set_option maxRecDepth 100000 in
theorem rX12_exec_175 {sk : xK} {base N d : Nat} {K18 : Int32 → Int32 → Int32 → Int32 → Nat → Nat → (Nat → Nat × Nat) → (Nat → Nat → Int32) → (Nat → Nat → Int64) → (Nat → Nat → Option Nat) → Int32 → hS → Prop} (hkb : x_kb sk base) (a1 : Int32) (a2 : Int32) (a3 : Int32) (l4i : Int32) (l5i : Int32) (l6i : Int32) (l7i : Int32) (l8i : Int32) (l9i : Int32) (l10i : Int32) (l11i : Int32) (l12l : Int64) (l14l : Int64) (l16i : Int32) (l17l : Int64) (l19l : Int64) (l21i : Int32) (l22l : Int64) (n sl : Nat) (SH : Nat → Nat × Nat) (FI : Nat → Nat → Int32) (FL : Nat → Nat → Int64) (FR : Nat → Nat → Option Nat) (hok : pk n SH FR)  (hK18 : ∀ (l4i : Int32) (l5i : Int32) (l6i : Int32) (l7i : Int32) (l8i : Int32) (l9i : Int32) (l10i : Int32) (l11i : Int32) (l12l : Int64) (l14l : Int64) (l16i : Int32) (l17l : Int64) (l19l : Int64) (l21i : Int32) (l22l : Int64) (n sl : Nat) (SH : Nat → Nat × Nat) (FI : Nat → Nat → Int32) (FL : Nat → Nat → Int64) (FR : Nat → Nat → Option Nat), pk n SH FR → pw pj_I sk base N d none 181 18 [(0, .ref (base + 121)), (1, .int (a1)), (2, .int (a2)), (3, .int (a3)), (4, .int (l4i)), (5, .int (l5i)), (6, .int (l6i)), (7, .int (l7i)), (8, .int (l8i)), (9, .int (l9i)), (10, .int (l10i)), (11, .int (l11i)), (12, .long (l12l)), (14, .long (l14l)), (16, .int (l16i)), (17, .long (l17l)), (19, .long (l19l)), (21, .int (l21i)), (22, .long (l22l))] [] (n, sl, SH, FI, FL, FR) (K18 l4i l5i l6i l7i n sl SH FI FL FR)) : pw pj_I sk base N d none 181 175 [(0, .ref (base + 121)), (1, .int (a1)), (2, .int (a2)), (3, .int (a3)), (4, .int (l4i)), (5, .int (l5i)), (6, .int (l6i)), (7, .int (l7i)), (8, .int (l8i)), (9, .int (l9i)), (10, .int (l10i)), (11, .int (l11i)), (12, .long (l12l)), (14, .long (l14l)), (16, .int (l16i)), (17, .long (l17l)), (19, .long (l19l)), (21, .int (l21i)), (22, .long (l22l))] [] (n, sl, SH, FI, FL, FR) (RX12_exec_175 K18 a1 a2 a3 l4i n sl SH FI FL FR) := by
  unfold RX12_exec_175
  refine pw_iload (aX12_exec 94 rfl) rfl ?_
  refine pw_ifne (tgt := 182) (aX12_exec 95 rfl) (by decide) (fun b0 => ?_) (fun b0 => ?_)
  · skip
    refine pw_iconst (v := (0 : Int32)) (aX12_exec 96 rfl) rfl ?_
    exact pw_iret (aX12_exec 97 rfl) hok
  · skip
    refine pw_aloadn (aX12_exec 98 rfl) rfl ?_
    refine pw_callV (Bs := []) (rest := []) (aX12_exec 99 rfl) um_RX12_273 ujX12_isBase wc_RX12_273.2.2.2.2 (by decide) (by decide) rfl rfl (fun d => rX12_isBase hkb  n sl SH FI FL FR hok) (fun v1 n1 sl1 SH1 FI1 FL1 FR1 hok1 _ => ?_)
    show pw _ _ _ _ _ _ _ 186 _ [.int (v1)] _ _
    refine pw_ifne (tgt := 200) (aX12_exec 100 rfl) (by decide) (fun b2 => ?_) (fun b2 => ?_)
    · skip
      refine pw_aloadn (aX12_exec 101 rfl) rfl ?_
      refine pw_bipush (v := (11 : Int32)) (aX12_exec 102 rfl) rfl ?_
      refine pw_aloadn (aX12_exec 103 rfl) rfl ?_
      refine pw_getr (v := .int (FI1 121 33)) (aX12_exec 104 rfl) uf_RX12_267 un_RX12_267 rfl ?_
      refine pw_callV (Bs := [.int ((11 : Int32)), .int (FI1 121 33)]) (rest := []) (aX12_exec 105 rfl) um_RX12_270 ujX12_fails wc_RX12_270.2.2.2.2 (by decide) (by decide) rfl rfl (fun d => rX12_fails hkb ((11 : Int32)) (FI1 121 33) n1 sl1 SH1 FI1 FL1 FR1 hok1) (fun v3 n3 sl3 SH3 FI3 FL3 FR3 hok3 _ => ?_)
      show pw _ _ _ _ _ _ _ 199 _ [.int (v3)] _ _
      exact pw_iret (aX12_exec 106 rfl) hok3
    · skip
      refine pw_iloadn (aX12_exec 107 rfl) rfl ?_
      refine pw_iconst (v := (1 : Int32)) (aX12_exec 108 rfl) rfl ?_
      refine pw_icne (tgt := 207) (aX12_exec 109 rfl) (by decide) (fun b4 => ?_) (fun b4 => ?_)
      · skip
        refine pw_iconst (v := (0 : Int32)) (aX12_exec 110 rfl) rfl ?_
        exact pw_iret (aX12_exec 111 rfl) hok1
      · skip
        refine pw_aloadn (aX12_exec 112 rfl) rfl ?_
        refine pw_getr (v := .ref (base + 128)) (aX12_exec 113 rfl) uf_RX12_36 un_RX12_36 (congrArg (fun r => va_rf (h_rf base r)) (q121_15 (hok1).2.1)) ?_
        refine pw_iconst (v := (0 : Int32)) (aX12_exec 114 rfl) rfl ?_
        refine pw_ialdr (c := 128) (ix := 0) (aX12_exec 115 rfl) rfl (fun _ => ?_)
        refine pw_sipush (v := (128 : Int32)) (aX12_exec 116 rfl) rfl ?_
        refine pw_icne (tgt := 229) (aX12_exec 117 rfl) (by decide) (fun b5 => ?_) (fun b5 => ?_)
        · skip
          refine pw_aloadn (aX12_exec 118 rfl) rfl ?_
          refine pw_iconst (v := (4 : Int32)) (aX12_exec 119 rfl) rfl ?_
          refine pw_aloadn (aX12_exec 120 rfl) rfl ?_
          refine pw_getr (v := .int (FI1 121 33)) (aX12_exec 121 rfl) uf_RX12_267 un_RX12_267 rfl ?_
          refine pw_callV (Bs := [.int ((4 : Int32)), .int (FI1 121 33)]) (rest := []) (aX12_exec 122 rfl) um_RX12_270 ujX12_fails wc_RX12_270.2.2.2.2 (by decide) (by decide) rfl rfl (fun d => rX12_fails hkb ((4 : Int32)) (FI1 121 33) n1 sl1 SH1 FI1 FL1 FR1 hok1) (fun v6 n6 sl6 SH6 FI6 FL6 FR6 hok6 _ => ?_)
          show pw _ _ _ _ _ _ _ 228 _ [.int (v6)] _ _
          exact pw_iret (aX12_exec 123 rfl) hok6
        · skip
          refine pw_iconst (v := (0 : Int32)) (aX12_exec 124 rfl) rfl ?_
          refine pw_istore (L2 := [(4, .int ((0 : Int32))), (0, .ref (base + 121)), (1, .int (a1)), (2, .int (a2)), (3, .int (a3)), (5, .int (l5i)), (6, .int (l6i)), (7, .int (l7i)), (8, .int (l8i)), (9, .int (l9i)), (10, .int (l10i)), (11, .int (l11i)), (12, .long (l12l)), (14, .long (l14l)), (16, .int (l16i)), (17, .long (l17l)), (19, .long (l19l)), (21, .int (l21i)), (22, .long (l22l))]) (aX12_exec 125 rfl) rfl ?_
          refine pw_aloadn (aX12_exec 126 rfl) rfl ?_
          refine pw_getr (v := .int (FI1 121 40)) (aX12_exec 127 rfl) uf_RX12_277 un_RX12_277 rfl ?_
          refine pw_istore (L2 := [(5, .int (FI1 121 40)), (4, .int ((0 : Int32))), (0, .ref (base + 121)), (1, .int (a1)), (2, .int (a2)), (3, .int (a3)), (6, .int (l6i)), (7, .int (l7i)), (8, .int (l8i)), (9, .int (l9i)), (10, .int (l10i)), (11, .int (l11i)), (12, .long (l12l)), (14, .long (l14l)), (16, .int (l16i)), (17, .long (l17l)), (19, .long (l19l)), (21, .int (l21i)), (22, .long (l22l))]) (aX12_exec 128 rfl) rfl ?_
          refine pw_aloadn (aX12_exec 129 rfl) rfl ?_
          refine pw_getr (v := .int (FI1 121 41)) (aX12_exec 130 rfl) uf_RX12_280 un_RX12_280 rfl ?_
          refine pw_istore (L2 := [(6, .int (FI1 121 41)), (5, .int (FI1 121 40)), (4, .int ((0 : Int32))), (0, .ref (base + 121)), (1, .int (a1)), (2, .int (a2)), (3, .int (a3)), (7, .int (l7i)), (8, .int (l8i)), (9, .int (l9i)), (10, .int (l10i)), (11, .int (l11i)), (12, .long (l12l)), (14, .long (l14l)), (16, .int (l16i)), (17, .long (l17l)), (19, .long (l19l)), (21, .int (l21i)), (22, .long (l22l))]) (aX12_exec 131 rfl) rfl ?_
          refine pw_aloadn (aX12_exec 132 rfl) rfl ?_
          refine pw_getr (v := .int (FI1 121 42)) (aX12_exec 133 rfl) uf_RX12_283 un_RX12_283 rfl ?_
          refine pw_istore (L2 := [(7, .int (FI1 121 42)), (6, .int (FI1 121 41)), (5, .int (FI1 121 40)), (4, .int ((0 : Int32))), (0, .ref (base + 121)), (1, .int (a1)), (2, .int (a2)), (3, .int (a3)), (8, .int (l8i)), (9, .int (l9i)), (10, .int (l10i)), (11, .int (l11i)), (12, .long (l12l)), (14, .long (l14l)), (16, .int (l16i)), (17, .long (l17l)), (19, .long (l19l)), (21, .int (l21i)), (22, .long (l22l))]) (aX12_exec 134 rfl) rfl ?_
          refine pw_aloadn (aX12_exec 135 rfl) rfl ?_
          refine pw_aloadn (aX12_exec 136 rfl) rfl ?_
          refine pw_getr (v := .int (FI1 121 43)) (aX12_exec 137 rfl) uf_RX12_286 un_RX12_286 rfl ?_
          refine pw_putri (aX12_exec 138 rfl) uf_RX12_267 (fun _ _ _ => rfl) (fun t8 => ?_)
          refine pw_aloadn (aX12_exec 139 rfl) rfl ?_
          refine pw_iconst (v := (0 : Int32)) (aX12_exec 140 rfl) rfl ?_
          refine pw_aloadn (aX12_exec 141 rfl) rfl ?_
          refine pw_getr (v := .long (FL1 121 39)) (aX12_exec 142 rfl) uf_RX12_252 un_RX12_252 rfl ?_
          refine pw_aloadn (aX12_exec 143 rfl) rfl ?_
          refine pw_getr (v := .long (FL1 121 44)) (aX12_exec 144 rfl) uf_RX12_289 un_RX12_289 rfl ?_
          refine pw_ladd (aX12_exec 145 rfl) ?_
          refine pw_callV (Bs := [.int ((0 : Int32)), .long ((FL1 121 39) + (FL1 121 44))]) (rest := []) (aX12_exec 146 rfl) um_RX12_292 ujX12_pushed wc_RX12_292.2.2.2.2 (by decide) (by decide) rfl rfl (fun d => rX12_pushed hkb ((0 : Int32)) ((FL1 121 39) + (FL1 121 44)) n1 sl1 SH1 (h_up FI1 121 33 (FI1 121 43)) FL1 FR1 hok1) (fun v8 n8 sl8 SH8 FI8 FL8 FR8 hok8 _ => ?_)
          show pw _ _ _ _ _ _ _ 272 _ [] _ _
          refine pw_goto (tgt := 18) (aX12_exec 147 rfl) (by decide) ?_
          exact pw_Li (L2 := [(0, .ref (base + 121)), (1, .int (a1)), (2, .int (a2)), (3, .int (a3)), (4, .int ((0 : Int32))), (5, .int (FI1 121 40)), (6, .int (FI1 121 41)), (7, .int (FI1 121 42)), (8, .int (l8i)), (9, .int (l9i)), (10, .int (l10i)), (11, .int (l11i)), (12, .long (l12l)), (14, .long (l14l)), (16, .int (l16i)), (17, .long (l17l)), (19, .long (l19l)), (21, .int (l21i)), (22, .long (l22l))]) [7, 6, 5, 4, 0, 1, 2, 3, 8, 9, 10, 11, 12, 13, 14, 15, 16, 17, 18] (hK18 ((0 : Int32)) (FI1 121 40) (FI1 121 41) (FI1 121 42) (l8i) (l9i) (l10i) (l11i) (l12l) (l14l) (l16i) (l17l) (l19l) (l21i) (l22l) n8 sl8 SH8 FI8 FL8 FR8 hok8) ⟨rfl, rfl, rfl, rfl, rfl, rfl, rfl, rfl, rfl, rfl, rfl, rfl, rfl, rfl, rfl, rfl, rfl, rfl, rfl, trivial⟩
set_option maxHeartbeats 4000000 in
set_option maxRecDepth 100000 in
theorem rX12_exec_592 {sk : xK} {base N d : Nat} {K18 : Int32 → Int32 → Int32 → Int32 → Nat → Nat → (Nat → Nat × Nat) → (Nat → Nat → Int32) → (Nat → Nat → Int64) → (Nat → Nat → Option Nat) → Int32 → hS → Prop} (hkb : x_kb sk base) (a1 : Int32) (a2 : Int32) (a3 : Int32) (l4i : Int32) (l6i : Int32) (l7i : Int32) (l9i : Int32) (l11i : Int32) (l12l : Int64) (l14l : Int64) (s0i : Int32) (s1i : Int32) (l5i : Int32) (l8i : Int32) (l10i : Int32) (l16i : Int32) (l17l : Int64) (l19l : Int64) (l21i : Int32) (l22l : Int64) (n sl : Nat) (SH : Nat → Nat × Nat) (FI : Nat → Nat → Int32) (FL : Nat → Nat → Int64) (FR : Nat → Nat → Option Nat) (hok : pk n SH FR)  (hK18 : ∀ (l4i : Int32) (l5i : Int32) (l6i : Int32) (l7i : Int32) (l8i : Int32) (l9i : Int32) (l10i : Int32) (l11i : Int32) (l12l : Int64) (l14l : Int64) (l16i : Int32) (l17l : Int64) (l19l : Int64) (l21i : Int32) (l22l : Int64) (n sl : Nat) (SH : Nat → Nat × Nat) (FI : Nat → Nat → Int32) (FL : Nat → Nat → Int64) (FR : Nat → Nat → Option Nat), pk n SH FR → pw pj_I sk base N d none 181 18 [(0, .ref (base + 121)), (1, .int (a1)), (2, .int (a2)), (3, .int (a3)), (4, .int (l4i)), (5, .int (l5i)), (6, .int (l6i)), (7, .int (l7i)), (8, .int (l8i)), (9, .int (l9i)), (10, .int (l10i)), (11, .int (l11i)), (12, .long (l12l)), (14, .long (l14l)), (16, .int (l16i)), (17, .long (l17l)), (19, .long (l19l)), (21, .int (l21i)), (22, .long (l22l))] [] (n, sl, SH, FI, FL, FR) (K18 l4i l5i l6i l7i n sl SH FI FL FR)) : pw pj_I sk base N d none 181 592 [(0, .ref (base + 121)), (1, .int (a1)), (2, .int (a2)), (3, .int (a3)), (4, .int (l4i)), (5, .int (l5i)), (6, .int (l6i)), (7, .int (l7i)), (8, .int (l8i)), (9, .int (l9i)), (10, .int (l10i)), (11, .int (l11i)), (12, .long (l12l)), (14, .long (l14l)), (16, .int (l16i)), (17, .long (l17l)), (19, .long (l19l)), (21, .int (l21i)), (22, .long (l22l))] [.int (s0i), .int (s1i), .ref (base + 121)] (n, sl, SH, FI, FL, FR) (RX12_exec_592 K18 a1 a2 a3 l4i l6i l7i l9i l11i l12l l14l s0i s1i n sl SH FI FL FR) := by
  unfold RX12_exec_592
  refine pw_lload (aX12_exec 301 rfl) rfl ?_
  refine pw_lload (aX12_exec 302 rfl) rfl ?_
  refine pw_callV (Bs := [.int (s1i), .int (s0i), .long (l12l), .long (l14l)]) (rest := []) (aX12_exec 303 rfl) um_RX12_317 ujX12_isPiece wc_RX12_317.2.2.2.2 (by decide) (by decide) rfl rfl (fun d => rX12_isPiece hkb (s1i) (s0i) (l12l) (l14l) n sl SH FI FL FR hok) (fun v0 n0 sl0 SH0 FI0 FL0 FR0 hok0 _ => ?_)
  show pw _ _ _ _ _ _ _ 599 _ [.int (v0)] _ _
  refine pw_ifne (tgt := 611) (aX12_exec 304 rfl) (by decide) (fun b1 => ?_) (fun b1 => ?_)
  · skip
    refine pw_aloadn (aX12_exec 305 rfl) rfl ?_
    refine pw_bipush (v := (13 : Int32)) (aX12_exec 306 rfl) rfl ?_
    refine pw_iload (aX12_exec 307 rfl) rfl ?_
    refine pw_callV (Bs := [.int ((13 : Int32)), .int (l9i)]) (rest := []) (aX12_exec 308 rfl) um_RX12_270 ujX12_fails wc_RX12_270.2.2.2.2 (by decide) (by decide) rfl rfl (fun d => rX12_fails hkb ((13 : Int32)) (l9i) n0 sl0 SH0 FI0 FL0 FR0 hok0) (fun v2 n2 sl2 SH2 FI2 FL2 FR2 hok2 _ => ?_)
    show pw _ _ _ _ _ _ _ 610 _ [.int (v2)] _ _
    exact pw_iret (aX12_exec 309 rfl) hok2
  · skip
    refine pw_iload (aX12_exec 310 rfl) rfl ?_
    refine pw_istore (L2 := [(5, .int (l11i)), (0, .ref (base + 121)), (1, .int (a1)), (2, .int (a2)), (3, .int (a3)), (4, .int (l4i)), (6, .int (l6i)), (7, .int (l7i)), (8, .int (l8i)), (9, .int (l9i)), (10, .int (l10i)), (11, .int (l11i)), (12, .long (l12l)), (14, .long (l14l)), (16, .int (l16i)), (17, .long (l17l)), (19, .long (l19l)), (21, .int (l21i)), (22, .long (l22l))]) (aX12_exec 311 rfl) rfl ?_
    refine pw_goto (tgt := 18) (aX12_exec 312 rfl) (by decide) ?_
    exact pw_Li (L2 := [(0, .ref (base + 121)), (1, .int (a1)), (2, .int (a2)), (3, .int (a3)), (4, .int (l4i)), (5, .int (l11i)), (6, .int (l6i)), (7, .int (l7i)), (8, .int (l8i)), (9, .int (l9i)), (10, .int (l10i)), (11, .int (l11i)), (12, .long (l12l)), (14, .long (l14l)), (16, .int (l16i)), (17, .long (l17l)), (19, .long (l19l)), (21, .int (l21i)), (22, .long (l22l))]) [5, 0, 1, 2, 3, 4, 6, 7, 8, 9, 10, 11, 12, 13, 14, 15, 16, 17, 18] (hK18 (l4i) (l11i) (l6i) (l7i) (l8i) (l9i) (l10i) (l11i) (l12l) (l14l) (l16i) (l17l) (l19l) (l21i) (l22l) n0 sl0 SH0 FI0 FL0 FR0 hok0) ⟨rfl, rfl, rfl, rfl, rfl, rfl, rfl, rfl, rfl, rfl, rfl, rfl, rfl, rfl, rfl, rfl, rfl, rfl, rfl, trivial⟩
set_option maxHeartbeats 4000000 in
set_option maxRecDepth 100000 in
theorem rX12_exec_576 {sk : xK} {base N d : Nat} {K18 : Int32 → Int32 → Int32 → Int32 → Nat → Nat → (Nat → Nat × Nat) → (Nat → Nat → Int32) → (Nat → Nat → Int64) → (Nat → Nat → Option Nat) → Int32 → hS → Prop} (hkb : x_kb sk base) (a1 : Int32) (a2 : Int32) (a3 : Int32) (l4i : Int32) (l6i : Int32) (l7i : Int32) (l9i : Int32) (l10i : Int32) (l11i : Int32) (l12l : Int64) (l14l : Int64) (l5i : Int32) (l8i : Int32) (l16i : Int32) (l17l : Int64) (l19l : Int64) (l21i : Int32) (l22l : Int64) (n sl : Nat) (SH : Nat → Nat × Nat) (FI : Nat → Nat → Int32) (FL : Nat → Nat → Int64) (FR : Nat → Nat → Option Nat) (hok : pk n SH FR)  (hK18 : ∀ (l4i : Int32) (l5i : Int32) (l6i : Int32) (l7i : Int32) (l8i : Int32) (l9i : Int32) (l10i : Int32) (l11i : Int32) (l12l : Int64) (l14l : Int64) (l16i : Int32) (l17l : Int64) (l19l : Int64) (l21i : Int32) (l22l : Int64) (n sl : Nat) (SH : Nat → Nat × Nat) (FI : Nat → Nat → Int32) (FL : Nat → Nat → Int64) (FR : Nat → Nat → Option Nat), pk n SH FR → pw pj_I sk base N d none 181 18 [(0, .ref (base + 121)), (1, .int (a1)), (2, .int (a2)), (3, .int (a3)), (4, .int (l4i)), (5, .int (l5i)), (6, .int (l6i)), (7, .int (l7i)), (8, .int (l8i)), (9, .int (l9i)), (10, .int (l10i)), (11, .int (l11i)), (12, .long (l12l)), (14, .long (l14l)), (16, .int (l16i)), (17, .long (l17l)), (19, .long (l19l)), (21, .int (l21i)), (22, .long (l22l))] [] (n, sl, SH, FI, FL, FR) (K18 l4i l5i l6i l7i n sl SH FI FL FR)) : pw pj_I sk base N d none 181 576 [(0, .ref (base + 121)), (1, .int (a1)), (2, .int (a2)), (3, .int (a3)), (4, .int (l4i)), (5, .int (l5i)), (6, .int (l6i)), (7, .int (l7i)), (8, .int (l8i)), (9, .int (l9i)), (10, .int (l10i)), (11, .int (l11i)), (12, .long (l12l)), (14, .long (l14l)), (16, .int (l16i)), (17, .long (l17l)), (19, .long (l19l)), (21, .int (l21i)), (22, .long (l22l))] [] (n, sl, SH, FI, FL, FR) (RX12_exec_576 K18 a1 a2 a3 l4i l6i l7i l9i l10i l11i l12l l14l n sl SH FI FL FR) := by
  unfold RX12_exec_576
  refine pw_aloadn (aX12_exec 293 rfl) rfl ?_
  refine pw_iload (aX12_exec 294 rfl) rfl ?_
  refine pw_iload (aX12_exec 295 rfl) rfl ?_
  refine pw_sipush (v := (157 : Int32)) (aX12_exec 296 rfl) rfl ?_
  refine pw_icne (tgt := 591) (aX12_exec 297 rfl) (by decide) (fun b0 => ?_) (fun b0 => ?_)
  · skip
    refine pw_iconst (v := (1 : Int32)) (aX12_exec 298 rfl) rfl ?_
    refine pw_goto (tgt := 592) (aX12_exec 299 rfl) (by decide) ?_
    exact pw_Li (L2 := [(0, .ref (base + 121)), (1, .int (a1)), (2, .int (a2)), (3, .int (a3)), (4, .int (l4i)), (5, .int (l5i)), (6, .int (l6i)), (7, .int (l7i)), (8, .int (l8i)), (9, .int (l9i)), (10, .int (l10i)), (11, .int (l11i)), (12, .long (l12l)), (14, .long (l14l)), (16, .int (l16i)), (17, .long (l17l)), (19, .long (l19l)), (21, .int (l21i)), (22, .long (l22l))]) [0, 1, 2, 3, 4, 5, 6, 7, 8, 9, 10, 11, 12, 13, 14, 15, 16, 17, 18] (rX12_exec_592 hkb a1 a2 a3 (l4i) (l6i) (l7i) (l9i) (l11i) (l12l) (l14l) ((1 : Int32)) (l4i) (l5i) (l8i) (l10i) (l16i) (l17l) (l19l) (l21i) (l22l) n sl SH FI FL FR hok  hK18) ⟨rfl, rfl, rfl, rfl, rfl, rfl, rfl, rfl, rfl, rfl, rfl, rfl, rfl, rfl, rfl, rfl, rfl, rfl, rfl, trivial⟩
  · skip
    refine pw_iconst (v := (0 : Int32)) (aX12_exec 300 rfl) rfl ?_
    exact pw_Li (L2 := [(0, .ref (base + 121)), (1, .int (a1)), (2, .int (a2)), (3, .int (a3)), (4, .int (l4i)), (5, .int (l5i)), (6, .int (l6i)), (7, .int (l7i)), (8, .int (l8i)), (9, .int (l9i)), (10, .int (l10i)), (11, .int (l11i)), (12, .long (l12l)), (14, .long (l14l)), (16, .int (l16i)), (17, .long (l17l)), (19, .long (l19l)), (21, .int (l21i)), (22, .long (l22l))]) [0, 1, 2, 3, 4, 5, 6, 7, 8, 9, 10, 11, 12, 13, 14, 15, 16, 17, 18] (rX12_exec_592 hkb a1 a2 a3 (l4i) (l6i) (l7i) (l9i) (l11i) (l12l) (l14l) ((0 : Int32)) (l4i) (l5i) (l8i) (l10i) (l16i) (l17l) (l19l) (l21i) (l22l) n sl SH FI FL FR hok  hK18) ⟨rfl, rfl, rfl, rfl, rfl, rfl, rfl, rfl, rfl, rfl, rfl, rfl, rfl, rfl, rfl, rfl, rfl, rfl, rfl, trivial⟩
set_option maxHeartbeats 4000000 in
set_option maxRecDepth 100000 in
theorem rX12_exec_1100 {sk : xK} {base N d : Nat} {K18 : Int32 → Int32 → Int32 → Int32 → Nat → Nat → (Nat → Nat × Nat) → (Nat → Nat → Int32) → (Nat → Nat → Int64) → (Nat → Nat → Option Nat) → Int32 → hS → Prop} (hkb : x_kb sk base) (a1 : Int32) (a2 : Int32) (a3 : Int32) (l4i : Int32) (l6i : Int32) (l7i : Int32) (l11i : Int32) (l12l : Int64) (l5i : Int32) (l8i : Int32) (l9i : Int32) (l10i : Int32) (l14l : Int64) (l16i : Int32) (l17l : Int64) (l19l : Int64) (l21i : Int32) (l22l : Int64) (n sl : Nat) (SH : Nat → Nat × Nat) (FI : Nat → Nat → Int32) (FL : Nat → Nat → Int64) (FR : Nat → Nat → Option Nat) (hok : pk n SH FR)  (hK18 : ∀ (l4i : Int32) (l5i : Int32) (l6i : Int32) (l7i : Int32) (l8i : Int32) (l9i : Int32) (l10i : Int32) (l11i : Int32) (l12l : Int64) (l14l : Int64) (l16i : Int32) (l17l : Int64) (l19l : Int64) (l21i : Int32) (l22l : Int64) (n sl : Nat) (SH : Nat → Nat × Nat) (FI : Nat → Nat → Int32) (FL : Nat → Nat → Int64) (FR : Nat → Nat → Option Nat), pk n SH FR → pw pj_I sk base N d none 181 18 [(0, .ref (base + 121)), (1, .int (a1)), (2, .int (a2)), (3, .int (a3)), (4, .int (l4i)), (5, .int (l5i)), (6, .int (l6i)), (7, .int (l7i)), (8, .int (l8i)), (9, .int (l9i)), (10, .int (l10i)), (11, .int (l11i)), (12, .long (l12l)), (14, .long (l14l)), (16, .int (l16i)), (17, .long (l17l)), (19, .long (l19l)), (21, .int (l21i)), (22, .long (l22l))] [] (n, sl, SH, FI, FL, FR) (K18 l4i l5i l6i l7i n sl SH FI FL FR)) : pw pj_I sk base N d none 181 1100 [(0, .ref (base + 121)), (1, .int (a1)), (2, .int (a2)), (3, .int (a3)), (4, .int (l4i)), (5, .int (l5i)), (6, .int (l6i)), (7, .int (l7i)), (8, .int (l8i)), (9, .int (l9i)), (10, .int (l10i)), (11, .int (l11i)), (12, .long (l12l)), (14, .long (l14l)), (16, .int (l16i)), (17, .long (l17l)), (19, .long (l19l)), (21, .int (l21i)), (22, .long (l22l))] [] (n, sl, SH, FI, FL, FR) (RX12_exec_1100 K18 a1 a2 a3 l4i l6i l7i l11i l12l n sl SH FI FL FR) := by
  unfold RX12_exec_1100
  refine pw_aloadn (aX12_exec 550 rfl) rfl ?_
  refine pw_getr (v := .ref (base + 139)) (aX12_exec 551 rfl) uf_RX12_69 un_RX12_69 (congrArg (fun r => va_rf (h_rf base r)) (q121_26 (hok).2.1)) ?_
  refine pw_aloadn (aX12_exec 552 rfl) rfl ?_
  refine pw_getr (v := .int (FI 121 29)) (aX12_exec 553 rfl) uf_RX12_264 un_RX12_264 rfl ?_
  refine pw_iload (aX12_exec 554 rfl) rfl ?_
  refine pw_iastr (c := 139) (ix := (FI 121 29).toInt.toNat) (aX12_exec 555 rfl) rfl (fun _ => ?_)
  refine pw_aloadn (aX12_exec 556 rfl) rfl ?_
  refine pw_getr (v := .ref (base + 140)) (aX12_exec 557 rfl) uf_RX12_72 un_RX12_72 (congrArg (fun r => va_rf (h_rf base r)) (q121_27 (hok).2.1)) ?_
  refine pw_aloadn (aX12_exec 558 rfl) rfl ?_
  refine pw_getr (v := .int (FI 121 29)) (aX12_exec 559 rfl) uf_RX12_264 un_RX12_264 rfl ?_
  refine pw_iload (aX12_exec 560 rfl) rfl ?_
  refine pw_iastr (c := 140) (ix := (FI 121 29).toInt.toNat) (aX12_exec 561 rfl) rfl (fun _ => ?_)
  refine pw_aloadn (aX12_exec 562 rfl) rfl ?_
  refine pw_getr (v := .ref (base + 141)) (aX12_exec 563 rfl) uf_RX12_75 un_RX12_75 (congrArg (fun r => va_rf (h_rf base r)) (q121_28 (hok).2.1)) ?_
  refine pw_aloadn (aX12_exec 564 rfl) rfl ?_
  refine pw_getr (v := .int (FI 121 29)) (aX12_exec 565 rfl) uf_RX12_264 un_RX12_264 rfl ?_
  refine pw_iload (aX12_exec 566 rfl) rfl ?_
  refine pw_iastr (c := 141) (ix := (FI 121 29).toInt.toNat) (aX12_exec 567 rfl) rfl (fun _ => ?_)
  refine pw_aloadn (aX12_exec 568 rfl) rfl ?_
  refine pw_aloadn (aX12_exec 569 rfl) rfl ?_
  refine pw_getr (v := .int (FI 121 29)) (aX12_exec 570 rfl) uf_RX12_264 un_RX12_264 rfl ?_
  refine pw_iconst (v := (1 : Int32)) (aX12_exec 571 rfl) rfl ?_
  refine pw_iadd (aX12_exec 572 rfl) ?_
  refine pw_putri (aX12_exec 573 rfl) uf_RX12_264 (fun _ _ _ => rfl) (fun t1 => ?_)
  refine pw_aloadn (aX12_exec 574 rfl) rfl ?_
  refine pw_getr (v := .ref (base + 142)) (aX12_exec 575 rfl) uf_RX12_78 un_RX12_78 (congrArg (fun r => va_rf (h_rf base r)) (q121_45 (hok).2.1)) ?_
  refine pw_iload (aX12_exec 576 rfl) rfl ?_
  refine pw_aloadn (aX12_exec 577 rfl) rfl ?_
  refine pw_getr (v := .ref (base + 142)) (aX12_exec 578 rfl) uf_RX12_78 un_RX12_78 (congrArg (fun r => va_rf (h_rf base r)) (q121_45 (hok).2.1)) ?_
  refine pw_iload (aX12_exec 579 rfl) rfl ?_
  refine pw_ialdr (c := 142) (ix := (l4i).toInt.toNat) (aX12_exec 580 rfl) rfl (fun _ => ?_)
  refine pw_iconst (v := (1 : Int32)) (aX12_exec 581 rfl) rfl ?_
  refine pw_iadd (aX12_exec 582 rfl) ?_
  refine pw_iastr (c := 142) (ix := (l4i).toInt.toNat) (aX12_exec 583 rfl) rfl (fun _ => ?_)
  refine pw_sipush (v := (600 : Int32)) (aX12_exec 584 rfl) rfl ?_
  refine pw_lload (aX12_exec 585 rfl) rfl ?_
  refine pw_l2i (aX12_exec 586 rfl) ?_
  refine pw_imul (aX12_exec 587 rfl) ?_
  refine pw_istore (L2 := [(6, .int (((600 : Int32)) * ((l12l).toInt32))), (0, .ref (base + 121)), (1, .int (a1)), (2, .int (a2)), (3, .int (a3)), (4, .int (l4i)), (5, .int (l5i)), (7, .int (l7i)), (8, .int (l8i)), (9, .int (l9i)), (10, .int (l10i)), (11, .int (l11i)), (12, .long (l12l)), (14, .long (l14l)), (16, .int (l16i)), (17, .long (l17l)), (19, .long (l19l)), (21, .int (l21i)), (22, .long (l22l))]) (aX12_exec 588 rfl) rfl ?_
  refine pw_iload (aX12_exec 589 rfl) rfl ?_
  refine pw_aloadn (aX12_exec 590 rfl) rfl ?_
  refine pw_getr (v := .ref (base + 125)) (aX12_exec 591 rfl) uf_RX12_20 un_RX12_20 (congrArg (fun r => va_rf (h_rf base r)) (q121_4 (hok).2.1)) ?_
  refine pw_lload (aX12_exec 592 rfl) rfl ?_
  refine pw_l2i (aX12_exec 593 rfl) ?_
  refine pw_ialdr (c := 125) (ix := ((l12l).toInt32).toInt.toNat) (aX12_exec 594 rfl) rfl (fun _ => ?_)
  refine pw_iadd (aX12_exec 595 rfl) ?_
  refine pw_istore (L2 := [(7, .int ((((600 : Int32)) * ((l12l).toInt32)) + (FI 125 ((l12l).toInt32).toInt.toNat))), (6, .int (((600 : Int32)) * ((l12l).toInt32))), (0, .ref (base + 121)), (1, .int (a1)), (2, .int (a2)), (3, .int (a3)), (4, .int (l4i)), (5, .int (l5i)), (8, .int (l8i)), (9, .int (l9i)), (10, .int (l10i)), (11, .int (l11i)), (12, .long (l12l)), (14, .long (l14l)), (16, .int (l16i)), (17, .long (l17l)), (19, .long (l19l)), (21, .int (l21i)), (22, .long (l22l))]) (aX12_exec 596 rfl) rfl ?_
  refine pw_iload (aX12_exec 597 rfl) rfl ?_
  refine pw_istore (L2 := [(5, .int (((600 : Int32)) * ((l12l).toInt32))), (7, .int ((((600 : Int32)) * ((l12l).toInt32)) + (FI 125 ((l12l).toInt32).toInt.toNat))), (6, .int (((600 : Int32)) * ((l12l).toInt32))), (0, .ref (base + 121)), (1, .int (a1)), (2, .int (a2)), (3, .int (a3)), (4, .int (l4i)), (8, .int (l8i)), (9, .int (l9i)), (10, .int (l10i)), (11, .int (l11i)), (12, .long (l12l)), (14, .long (l14l)), (16, .int (l16i)), (17, .long (l17l)), (19, .long (l19l)), (21, .int (l21i)), (22, .long (l22l))]) (aX12_exec 598 rfl) rfl ?_
  refine pw_goto (tgt := 18) (aX12_exec 599 rfl) (by decide) ?_
  exact pw_Li (L2 := [(0, .ref (base + 121)), (1, .int (a1)), (2, .int (a2)), (3, .int (a3)), (4, .int (l4i)), (5, .int (((600 : Int32)) * ((l12l).toInt32))), (6, .int (((600 : Int32)) * ((l12l).toInt32))), (7, .int ((((600 : Int32)) * ((l12l).toInt32)) + (FI 125 ((l12l).toInt32).toInt.toNat))), (8, .int (l8i)), (9, .int (l9i)), (10, .int (l10i)), (11, .int (l11i)), (12, .long (l12l)), (14, .long (l14l)), (16, .int (l16i)), (17, .long (l17l)), (19, .long (l19l)), (21, .int (l21i)), (22, .long (l22l))]) [5, 7, 6, 0, 1, 2, 3, 4, 8, 9, 10, 11, 12, 13, 14, 15, 16, 17, 18] (hK18 (l4i) (((600 : Int32)) * ((l12l).toInt32)) (((600 : Int32)) * ((l12l).toInt32)) ((((600 : Int32)) * ((l12l).toInt32)) + (FI 125 ((l12l).toInt32).toInt.toNat)) (l8i) (l9i) (l10i) (l11i) (l12l) (l14l) (l16i) (l17l) (l19l) (l21i) (l22l) n sl SH (h_up (h_up (h_up (h_up (h_up FI 139 (FI 121 29).toInt.toNat (l11i)) 140 (FI 121 29).toInt.toNat (l6i)) 141 (FI 121 29).toInt.toNat (l7i)) 121 29 ((FI 121 29) + ((1 : Int32)))) 142 (l4i).toInt.toNat ((FI 142 (l4i).toInt.toNat) + ((1 : Int32)))) FL FR hok) ⟨rfl, rfl, rfl, rfl, rfl, rfl, rfl, rfl, rfl, rfl, rfl, rfl, rfl, rfl, rfl, rfl, rfl, rfl, rfl, trivial⟩
set_option maxHeartbeats 4000000 in
set_option maxRecDepth 100000 in
theorem rX12_exec_1080 {sk : xK} {base N d : Nat} {K18 : Int32 → Int32 → Int32 → Int32 → Nat → Nat → (Nat → Nat × Nat) → (Nat → Nat → Int32) → (Nat → Nat → Int64) → (Nat → Nat → Option Nat) → Int32 → hS → Prop} (hkb : x_kb sk base) (a1 : Int32) (a2 : Int32) (a3 : Int32) (l4i : Int32) (l6i : Int32) (l7i : Int32) (l9i : Int32) (l11i : Int32) (l12l : Int64) (l5i : Int32) (l8i : Int32) (l10i : Int32) (l14l : Int64) (l16i : Int32) (l17l : Int64) (l19l : Int64) (l21i : Int32) (l22l : Int64) (n sl : Nat) (SH : Nat → Nat × Nat) (FI : Nat → Nat → Int32) (FL : Nat → Nat → Int64) (FR : Nat → Nat → Option Nat) (hok : pk n SH FR)  (hK18 : ∀ (l4i : Int32) (l5i : Int32) (l6i : Int32) (l7i : Int32) (l8i : Int32) (l9i : Int32) (l10i : Int32) (l11i : Int32) (l12l : Int64) (l14l : Int64) (l16i : Int32) (l17l : Int64) (l19l : Int64) (l21i : Int32) (l22l : Int64) (n sl : Nat) (SH : Nat → Nat × Nat) (FI : Nat → Nat → Int32) (FL : Nat → Nat → Int64) (FR : Nat → Nat → Option Nat), pk n SH FR → pw pj_I sk base N d none 181 18 [(0, .ref (base + 121)), (1, .int (a1)), (2, .int (a2)), (3, .int (a3)), (4, .int (l4i)), (5, .int (l5i)), (6, .int (l6i)), (7, .int (l7i)), (8, .int (l8i)), (9, .int (l9i)), (10, .int (l10i)), (11, .int (l11i)), (12, .long (l12l)), (14, .long (l14l)), (16, .int (l16i)), (17, .long (l17l)), (19, .long (l19l)), (21, .int (l21i)), (22, .long (l22l))] [] (n, sl, SH, FI, FL, FR) (K18 l4i l5i l6i l7i n sl SH FI FL FR)) : pw pj_I sk base N d none 181 1080 [(0, .ref (base + 121)), (1, .int (a1)), (2, .int (a2)), (3, .int (a3)), (4, .int (l4i)), (5, .int (l5i)), (6, .int (l6i)), (7, .int (l7i)), (8, .int (l8i)), (9, .int (l9i)), (10, .int (l10i)), (11, .int (l11i)), (12, .long (l12l)), (14, .long (l14l)), (16, .int (l16i)), (17, .long (l17l)), (19, .long (l19l)), (21, .int (l21i)), (22, .long (l22l))] [] (n, sl, SH, FI, FL, FR) (RX12_exec_1080 K18 a1 a2 a3 l4i l6i l7i l9i l11i l12l n sl SH FI FL FR) := by
  unfold RX12_exec_1080
  refine pw_iload (aX12_exec 540 rfl) rfl ?_
  refine pw_ifne (tgt := 1100) (aX12_exec 541 rfl) (by decide) (fun b0 => ?_) (fun b0 => ?_)
  · skip
    refine pw_aloadn (aX12_exec 542 rfl) rfl ?_
    refine pw_getr (v := .ref (base + 142)) (aX12_exec 543 rfl) uf_RX12_78 un_RX12_78 (congrArg (fun r => va_rf (h_rf base r)) (q121_45 (hok).2.1)) ?_
    refine pw_iconst (v := (0 : Int32)) (aX12_exec 544 rfl) rfl ?_
    refine pw_ialdr (c := 142) (ix := 0) (aX12_exec 545 rfl) rfl (fun _ => ?_)
    refine pw_ifne (tgt := 1100) (aX12_exec 546 rfl) (by decide) (fun b1 => ?_) (fun b1 => ?_)
    · skip
      refine pw_aloadn (aX12_exec 547 rfl) rfl ?_
      refine pw_iload (aX12_exec 548 rfl) rfl ?_
      refine pw_putri (aX12_exec 549 rfl) uf_RX12_267 (fun _ _ _ => rfl) (fun t3 => ?_)
      exact pw_Li (L2 := [(0, .ref (base + 121)), (1, .int (a1)), (2, .int (a2)), (3, .int (a3)), (4, .int (l4i)), (5, .int (l5i)), (6, .int (l6i)), (7, .int (l7i)), (8, .int (l8i)), (9, .int (l9i)), (10, .int (l10i)), (11, .int (l11i)), (12, .long (l12l)), (14, .long (l14l)), (16, .int (l16i)), (17, .long (l17l)), (19, .long (l19l)), (21, .int (l21i)), (22, .long (l22l))]) [0, 1, 2, 3, 4, 5, 6, 7, 8, 9, 10, 11, 12, 13, 14, 15, 16, 17, 18] (rX12_exec_1100 hkb a1 a2 a3 (l4i) (l6i) (l7i) (l11i) (l12l) (l5i) (l8i) (l9i) (l10i) (l14l) (l16i) (l17l) (l19l) (l21i) (l22l) n sl SH (h_up FI 121 33 (l9i)) FL FR hok  hK18) ⟨rfl, rfl, rfl, rfl, rfl, rfl, rfl, rfl, rfl, rfl, rfl, rfl, rfl, rfl, rfl, rfl, rfl, rfl, rfl, trivial⟩
    · skip
      exact pw_Li (L2 := [(0, .ref (base + 121)), (1, .int (a1)), (2, .int (a2)), (3, .int (a3)), (4, .int (l4i)), (5, .int (l5i)), (6, .int (l6i)), (7, .int (l7i)), (8, .int (l8i)), (9, .int (l9i)), (10, .int (l10i)), (11, .int (l11i)), (12, .long (l12l)), (14, .long (l14l)), (16, .int (l16i)), (17, .long (l17l)), (19, .long (l19l)), (21, .int (l21i)), (22, .long (l22l))]) [0, 1, 2, 3, 4, 5, 6, 7, 8, 9, 10, 11, 12, 13, 14, 15, 16, 17, 18] (rX12_exec_1100 hkb a1 a2 a3 (l4i) (l6i) (l7i) (l11i) (l12l) (l5i) (l8i) (l9i) (l10i) (l14l) (l16i) (l17l) (l19l) (l21i) (l22l) n sl SH FI FL FR hok  hK18) ⟨rfl, rfl, rfl, rfl, rfl, rfl, rfl, rfl, rfl, rfl, rfl, rfl, rfl, rfl, rfl, rfl, rfl, rfl, rfl, trivial⟩
  · skip
    exact pw_Li (L2 := [(0, .ref (base + 121)), (1, .int (a1)), (2, .int (a2)), (3, .int (a3)), (4, .int (l4i)), (5, .int (l5i)), (6, .int (l6i)), (7, .int (l7i)), (8, .int (l8i)), (9, .int (l9i)), (10, .int (l10i)), (11, .int (l11i)), (12, .long (l12l)), (14, .long (l14l)), (16, .int (l16i)), (17, .long (l17l)), (19, .long (l19l)), (21, .int (l21i)), (22, .long (l22l))]) [0, 1, 2, 3, 4, 5, 6, 7, 8, 9, 10, 11, 12, 13, 14, 15, 16, 17, 18] (rX12_exec_1100 hkb a1 a2 a3 (l4i) (l6i) (l7i) (l11i) (l12l) (l5i) (l8i) (l9i) (l10i) (l14l) (l16i) (l17l) (l19l) (l21i) (l22l) n sl SH FI FL FR hok  hK18) ⟨rfl, rfl, rfl, rfl, rfl, rfl, rfl, rfl, rfl, rfl, rfl, rfl, rfl, rfl, rfl, rfl, rfl, rfl, rfl, trivial⟩
set_option maxHeartbeats 4000000 in
set_option maxRecDepth 100000 in
theorem rX12_exec_1237 {sk : xK} {base N d : Nat} {K18 : Int32 → Int32 → Int32 → Int32 → Nat → Nat → (Nat → Nat × Nat) → (Nat → Nat → Int32) → (Nat → Nat → Int64) → (Nat → Nat → Option Nat) → Int32 → hS → Prop} (hkb : x_kb sk base) (a1 : Int32) (a2 : Int32) (a3 : Int32) (l4i : Int32) (l6i : Int32) (l7i : Int32) (l21i : Int32) (l5i : Int32) (l8i : Int32) (l9i : Int32) (l10i : Int32) (l11i : Int32) (l12l : Int64) (l14l : Int64) (l16i : Int32) (l17l : Int64) (l19l : Int64) (l22l : Int64) (n sl : Nat) (SH : Nat → Nat × Nat) (FI : Nat → Nat → Int32) (FL : Nat → Nat → Int64) (FR : Nat → Nat → Option Nat) (hok : pk n SH FR)  (hK18 : ∀ (l4i : Int32) (l5i : Int32) (l6i : Int32) (l7i : Int32) (l8i : Int32) (l9i : Int32) (l10i : Int32) (l11i : Int32) (l12l : Int64) (l14l : Int64) (l16i : Int32) (l17l : Int64) (l19l : Int64) (l21i : Int32) (l22l : Int64) (n sl : Nat) (SH : Nat → Nat × Nat) (FI : Nat → Nat → Int32) (FL : Nat → Nat → Int64) (FR : Nat → Nat → Option Nat), pk n SH FR → pw pj_I sk base N d none 181 18 [(0, .ref (base + 121)), (1, .int (a1)), (2, .int (a2)), (3, .int (a3)), (4, .int (l4i)), (5, .int (l5i)), (6, .int (l6i)), (7, .int (l7i)), (8, .int (l8i)), (9, .int (l9i)), (10, .int (l10i)), (11, .int (l11i)), (12, .long (l12l)), (14, .long (l14l)), (16, .int (l16i)), (17, .long (l17l)), (19, .long (l19l)), (21, .int (l21i)), (22, .long (l22l))] [] (n, sl, SH, FI, FL, FR) (K18 l4i l5i l6i l7i n sl SH FI FL FR)) : pw pj_I sk base N d none 181 1237 [(0, .ref (base + 121)), (1, .int (a1)), (2, .int (a2)), (3, .int (a3)), (4, .int (l4i)), (5, .int (l5i)), (6, .int (l6i)), (7, .int (l7i)), (8, .int (l8i)), (9, .int (l9i)), (10, .int (l10i)), (11, .int (l11i)), (12, .long (l12l)), (14, .long (l14l)), (16, .int (l16i)), (17, .long (l17l)), (19, .long (l19l)), (21, .int (l21i)), (22, .long (l22l))] [] (n, sl, SH, FI, FL, FR) (RX12_exec_1237 K18 a1 a2 a3 l4i l6i l7i l21i n sl SH FI FL FR) := by
  unfold RX12_exec_1237
  refine pw_iload (aX12_exec 624 rfl) rfl ?_
  refine pw_istore (L2 := [(5, .int (l21i)), (0, .ref (base + 121)), (1, .int (a1)), (2, .int (a2)), (3, .int (a3)), (4, .int (l4i)), (6, .int (l6i)), (7, .int (l7i)), (8, .int (l8i)), (9, .int (l9i)), (10, .int (l10i)), (11, .int (l11i)), (12, .long (l12l)), (14, .long (l14l)), (16, .int (l16i)), (17, .long (l17l)), (19, .long (l19l)), (21, .int (l21i)), (22, .long (l22l))]) (aX12_exec 625 rfl) rfl ?_
  refine pw_goto (tgt := 18) (aX12_exec 626 rfl) (by decide) ?_
  exact pw_Li (L2 := [(0, .ref (base + 121)), (1, .int (a1)), (2, .int (a2)), (3, .int (a3)), (4, .int (l4i)), (5, .int (l21i)), (6, .int (l6i)), (7, .int (l7i)), (8, .int (l8i)), (9, .int (l9i)), (10, .int (l10i)), (11, .int (l11i)), (12, .long (l12l)), (14, .long (l14l)), (16, .int (l16i)), (17, .long (l17l)), (19, .long (l19l)), (21, .int (l21i)), (22, .long (l22l))]) [5, 0, 1, 2, 3, 4, 6, 7, 8, 9, 10, 11, 12, 13, 14, 15, 16, 17, 18] (hK18 (l4i) (l21i) (l6i) (l7i) (l8i) (l9i) (l10i) (l11i) (l12l) (l14l) (l16i) (l17l) (l19l) (l21i) (l22l) n sl SH FI FL FR hok) ⟨rfl, rfl, rfl, rfl, rfl, rfl, rfl, rfl, rfl, rfl, rfl, rfl, rfl, rfl, rfl, rfl, rfl, rfl, rfl, trivial⟩
set_option maxHeartbeats 4000000 in
set_option maxRecDepth 100000 in
theorem rX12_exec_1064 {sk : xK} {base N d : Nat} {K18 : Int32 → Int32 → Int32 → Int32 → Nat → Nat → (Nat → Nat × Nat) → (Nat → Nat → Int32) → (Nat → Nat → Int64) → (Nat → Nat → Option Nat) → Int32 → hS → Prop} (hkb : x_kb sk base) (a1 : Int32) (a2 : Int32) (a3 : Int32) (l4i : Int32) (l6i : Int32) (l7i : Int32) (l8i : Int32) (l9i : Int32) (l10i : Int32) (l11i : Int32) (l12l : Int64) (l14l : Int64) (l16i : Int32) (l17l : Int64) (l19l : Int64) (l21i : Int32) (l5i : Int32) (l22l : Int64) (n sl : Nat) (SH : Nat → Nat × Nat) (FI : Nat → Nat → Int32) (FL : Nat → Nat → Int64) (FR : Nat → Nat → Option Nat) (hok : pk n SH FR)  (hK18 : ∀ (l4i : Int32) (l5i : Int32) (l6i : Int32) (l7i : Int32) (l8i : Int32) (l9i : Int32) (l10i : Int32) (l11i : Int32) (l12l : Int64) (l14l : Int64) (l16i : Int32) (l17l : Int64) (l19l : Int64) (l21i : Int32) (l22l : Int64) (n sl : Nat) (SH : Nat → Nat × Nat) (FI : Nat → Nat → Int32) (FL : Nat → Nat → Int64) (FR : Nat → Nat → Option Nat), pk n SH FR → pw pj_I sk base N d none 181 18 [(0, .ref (base + 121)), (1, .int (a1)), (2, .int (a2)), (3, .int (a3)), (4, .int (l4i)), (5, .int (l5i)), (6, .int (l6i)), (7, .int (l7i)), (8, .int (l8i)), (9, .int (l9i)), (10, .int (l10i)), (11, .int (l11i)), (12, .long (l12l)), (14, .long (l14l)), (16, .int (l16i)), (17, .long (l17l)), (19, .long (l19l)), (21, .int (l21i)), (22, .long (l22l))] [] (n, sl, SH, FI, FL, FR) (K18 l4i l5i l6i l7i n sl SH FI FL FR)) : pw pj_I sk base N d none 181 1064 [(0, .ref (base + 121)), (1, .int (a1)), (2, .int (a2)), (3, .int (a3)), (4, .int (l4i)), (5, .int (l5i)), (6, .int (l6i)), (7, .int (l7i)), (8, .int (l8i)), (9, .int (l9i)), (10, .int (l10i)), (11, .int (l11i)), (12, .long (l12l)), (14, .long (l14l)), (16, .int (l16i)), (17, .long (l17l)), (19, .long (l19l)), (21, .int (l21i)), (22, .long (l22l))] [] (n, sl, SH, FI, FL, FR) (RX12_exec_1064 K18 a1 a2 a3 l4i l6i l7i l8i l9i l10i l11i l12l l14l l16i l17l l19l l21i n sl SH FI FL FR) := by
  unfold RX12_exec_1064
  refine pw_iload (aX12_exec 534 rfl) rfl ?_
  refine pw_sipush (v := (152 : Int32)) (aX12_exec 535 rfl) rfl ?_
  refine pw_iceq (tgt := 1080) (aX12_exec 536 rfl) (by decide) (fun b0 => ?_) (fun b0 => ?_)
  · skip
    exact pw_Li (L2 := [(0, .ref (base + 121)), (1, .int (a1)), (2, .int (a2)), (3, .int (a3)), (4, .int (l4i)), (5, .int (l5i)), (6, .int (l6i)), (7, .int (l7i)), (8, .int (l8i)), (9, .int (l9i)), (10, .int (l10i)), (11, .int (l11i)), (12, .long (l12l)), (14, .long (l14l)), (16, .int (l16i)), (17, .long (l17l)), (19, .long (l19l)), (21, .int (l21i)), (22, .long (l22l))]) [0, 1, 2, 3, 4, 5, 6, 7, 8, 9, 10, 11, 12, 13, 14, 15, 16, 17, 18] (rX12_exec_1080 hkb a1 a2 a3 (l4i) (l6i) (l7i) (l9i) (l11i) (l12l) (l5i) (l8i) (l10i) (l14l) (l16i) (l17l) (l19l) (l21i) (l22l) n sl SH FI FL FR hok  hK18) ⟨rfl, rfl, rfl, rfl, rfl, rfl, rfl, rfl, rfl, rfl, rfl, rfl, rfl, rfl, rfl, rfl, rfl, rfl, rfl, trivial⟩
  · skip
    refine pw_iload (aX12_exec 537 rfl) rfl ?_
    refine pw_sipush (v := (153 : Int32)) (aX12_exec 538 rfl) rfl ?_
    refine pw_icne (tgt := 1188) (aX12_exec 539 rfl) (by decide) (fun b1 => ?_) (fun b1 => ?_)
    · skip
      exact pw_Li (L2 := [(0, .ref (base + 121)), (1, .int (a1)), (2, .int (a2)), (3, .int (a3)), (4, .int (l4i)), (5, .int (l5i)), (6, .int (l6i)), (7, .int (l7i)), (8, .int (l8i)), (9, .int (l9i)), (10, .int (l10i)), (11, .int (l11i)), (12, .long (l12l)), (14, .long (l14l)), (16, .int (l16i)), (17, .long (l17l)), (19, .long (l19l)), (21, .int (l21i)), (22, .long (l22l))]) [0, 1, 2, 3, 4, 5, 6, 7, 8, 9, 10, 11, 12, 13, 14, 15, 16, 17, 18] (rX12_exec_1080 hkb a1 a2 a3 (l4i) (l6i) (l7i) (l9i) (l11i) (l12l) (l5i) (l8i) (l10i) (l14l) (l16i) (l17l) (l19l) (l21i) (l22l) n sl SH FI FL FR hok  hK18) ⟨rfl, rfl, rfl, rfl, rfl, rfl, rfl, rfl, rfl, rfl, rfl, rfl, rfl, rfl, rfl, rfl, rfl, rfl, rfl, trivial⟩
    · skip
      refine pw_aloadn (aX12_exec 600 rfl) rfl ?_
      refine pw_iload (aX12_exec 601 rfl) rfl ?_
      refine pw_cf (pw_callV (Bs := [.int (l10i)]) (rest := []) (aX12_exec 602 rfl) um_RX12_330 ujX12_pushes wc_RX12_330.2.2.2.2 (by decide) (by decide) rfl rfl (fun d => rX12_pushes hkb (l10i) n sl SH FI FL FR hok) (fun v2 n2 sl2 SH2 FI2 FL2 FR2 _ hC => ?_))
      obtain ⟨rfl, hC⟩ := hC; cases hC
      show pw _ _ _ _ _ _ _ 1194 _ [.int (fX12_pushes (l10i) SH FI FL FR)] _ _
      refine pw_ifeq (tgt := 1225) (aX12_exec 603 rfl) (by decide) (fun b3 => ?_) (fun b3 => ?_)
      · skip
        refine pw_aloadn (aX12_exec 618 rfl) rfl ?_
        refine pw_iload (aX12_exec 619 rfl) rfl ?_
        refine pw_iload (aX12_exec 620 rfl) rfl ?_
        refine pw_lload (aX12_exec 621 rfl) rfl ?_
        refine pw_lload (aX12_exec 622 rfl) rfl ?_
        refine pw_callV (Bs := [.int (l4i), .int (l10i), .long (l12l), .long (l14l)]) (rest := []) (aX12_exec 623 rfl) um_RX12_336 ujX12_acts wc_RX12_336.2.2.2.2 (by decide) (by decide) rfl rfl (fun d => rX12_acts hkb (l4i) (l10i) (l12l) (l14l) n sl SH FI FL FR hok) (fun v4 n4 sl4 SH4 FI4 FL4 FR4 hok4 _ => ?_)
        show pw _ _ _ _ _ _ _ 1237 _ [] _ _
        exact pw_Li (L2 := [(0, .ref (base + 121)), (1, .int (a1)), (2, .int (a2)), (3, .int (a3)), (4, .int (l4i)), (5, .int (l5i)), (6, .int (l6i)), (7, .int (l7i)), (8, .int (l8i)), (9, .int (l9i)), (10, .int (l10i)), (11, .int (l11i)), (12, .long (l12l)), (14, .long (l14l)), (16, .int (l16i)), (17, .long (l17l)), (19, .long (l19l)), (21, .int (l21i)), (22, .long (l22l))]) [0, 1, 2, 3, 4, 5, 6, 7, 8, 9, 10, 11, 12, 13, 14, 15, 16, 17, 18] (rX12_exec_1237 hkb a1 a2 a3 (l4i) (l6i) (l7i) (l21i) (l5i) (l8i) (l9i) (l10i) (l11i) (l12l) (l14l) (l16i) (l17l) (l19l) (l22l) n4 sl4 SH4 FI4 FL4 FR4 hok4  hK18) ⟨rfl, rfl, rfl, rfl, rfl, rfl, rfl, rfl, rfl, rfl, rfl, rfl, rfl, rfl, rfl, rfl, rfl, rfl, rfl, trivial⟩
      · skip
        refine pw_aloadn (aX12_exec 604 rfl) rfl ?_
        refine pw_iload (aX12_exec 605 rfl) rfl ?_
        refine pw_aloadn (aX12_exec 606 rfl) rfl ?_
        refine pw_iload (aX12_exec 607 rfl) rfl ?_
        refine pw_lload (aX12_exec 608 rfl) rfl ?_
        refine pw_lload (aX12_exec 609 rfl) rfl ?_
        refine pw_lload (aX12_exec 610 rfl) rfl ?_
        refine pw_lload (aX12_exec 611 rfl) rfl ?_
        refine pw_iload (aX12_exec 612 rfl) rfl ?_
        refine pw_iload (aX12_exec 613 rfl) rfl ?_
        refine pw_iadd (aX12_exec 614 rfl) ?_
        refine pw_cf (pw_callV (Bs := [.int (l10i), .long (l12l), .long (l14l), .long (l17l), .long (l19l), .int ((l8i) + (l16i))]) (rest := [.int (l4i), .ref (base + 121)]) (aX12_exec 615 rfl) um_RX12_333 ujX12_pushes_ wc_RX12_333.2.2.2.2 (by decide) (by decide) rfl rfl (fun d => rX12_pushes_ hkb (l10i) (l12l) (l14l) (l17l) (l19l) ((l8i) + (l16i)) n sl SH FI FL FR hok) (fun v5 n5 sl5 SH5 FI5 FL5 FR5 _ hC => ?_))
        obtain ⟨rfl, hC⟩ := hC; cases hC
        show pw _ _ _ _ _ _ _ 1219 _ [.long (fX12_pushes_ (l10i) (l12l) (l14l) (l17l) (l19l) ((l8i) + (l16i)) SH FI FL FR), .int (l4i), .ref (base + 121)] _ _
        refine pw_callV (Bs := [.int (l4i), .long (fX12_pushes_ (l10i) (l12l) (l14l) (l17l) (l19l) ((l8i) + (l16i)) SH FI FL FR)]) (rest := []) (aX12_exec 616 rfl) um_RX12_292 ujX12_pushed wc_RX12_292.2.2.2.2 (by decide) (by decide) rfl rfl (fun d => rX12_pushed hkb (l4i) (fX12_pushes_ (l10i) (l12l) (l14l) (l17l) (l19l) ((l8i) + (l16i)) SH FI FL FR) n sl SH FI FL FR hok) (fun v6 n6 sl6 SH6 FI6 FL6 FR6 hok6 _ => ?_)
        show pw _ _ _ _ _ _ _ 1222 _ [] _ _
        refine pw_goto (tgt := 1237) (aX12_exec 617 rfl) (by decide) ?_
        exact pw_Li (L2 := [(0, .ref (base + 121)), (1, .int (a1)), (2, .int (a2)), (3, .int (a3)), (4, .int (l4i)), (5, .int (l5i)), (6, .int (l6i)), (7, .int (l7i)), (8, .int (l8i)), (9, .int (l9i)), (10, .int (l10i)), (11, .int (l11i)), (12, .long (l12l)), (14, .long (l14l)), (16, .int (l16i)), (17, .long (l17l)), (19, .long (l19l)), (21, .int (l21i)), (22, .long (l22l))]) [0, 1, 2, 3, 4, 5, 6, 7, 8, 9, 10, 11, 12, 13, 14, 15, 16, 17, 18] (rX12_exec_1237 hkb a1 a2 a3 (l4i) (l6i) (l7i) (l21i) (l5i) (l8i) (l9i) (l10i) (l11i) (l12l) (l14l) (l16i) (l17l) (l19l) (l22l) n6 sl6 SH6 FI6 FL6 FR6 hok6  hK18) ⟨rfl, rfl, rfl, rfl, rfl, rfl, rfl, rfl, rfl, rfl, rfl, rfl, rfl, rfl, rfl, rfl, rfl, rfl, rfl, trivial⟩
set_option maxHeartbeats 4000000 in
set_option maxRecDepth 100000 in
theorem rX12_exec_1039 {sk : xK} {base N d : Nat} {K18 : Int32 → Int32 → Int32 → Int32 → Nat → Nat → (Nat → Nat × Nat) → (Nat → Nat → Int32) → (Nat → Nat → Int64) → (Nat → Nat → Option Nat) → Int32 → hS → Prop} (hkb : x_kb sk base) (a1 : Int32) (a2 : Int32) (a3 : Int32) (l4i : Int32) (l6i : Int32) (l7i : Int32) (l8i : Int32) (l9i : Int32) (l10i : Int32) (l11i : Int32) (l12l : Int64) (l14l : Int64) (l16i : Int32) (l17l : Int64) (l19l : Int64) (l21i : Int32) (l5i : Int32) (l22l : Int64) (n sl : Nat) (SH : Nat → Nat × Nat) (FI : Nat → Nat → Int32) (FL : Nat → Nat → Int64) (FR : Nat → Nat → Option Nat) (hok : pk n SH FR)  (hK18 : ∀ (l4i : Int32) (l5i : Int32) (l6i : Int32) (l7i : Int32) (l8i : Int32) (l9i : Int32) (l10i : Int32) (l11i : Int32) (l12l : Int64) (l14l : Int64) (l16i : Int32) (l17l : Int64) (l19l : Int64) (l21i : Int32) (l22l : Int64) (n sl : Nat) (SH : Nat → Nat × Nat) (FI : Nat → Nat → Int32) (FL : Nat → Nat → Int64) (FR : Nat → Nat → Option Nat), pk n SH FR → pw pj_I sk base N d none 181 18 [(0, .ref (base + 121)), (1, .int (a1)), (2, .int (a2)), (3, .int (a3)), (4, .int (l4i)), (5, .int (l5i)), (6, .int (l6i)), (7, .int (l7i)), (8, .int (l8i)), (9, .int (l9i)), (10, .int (l10i)), (11, .int (l11i)), (12, .long (l12l)), (14, .long (l14l)), (16, .int (l16i)), (17, .long (l17l)), (19, .long (l19l)), (21, .int (l21i)), (22, .long (l22l))] [] (n, sl, SH, FI, FL, FR) (K18 l4i l5i l6i l7i n sl SH FI FL FR)) : pw pj_I sk base N d none 181 1039 [(0, .ref (base + 121)), (1, .int (a1)), (2, .int (a2)), (3, .int (a3)), (4, .int (l4i)), (5, .int (l5i)), (6, .int (l6i)), (7, .int (l7i)), (8, .int (l8i)), (9, .int (l9i)), (10, .int (l10i)), (11, .int (l11i)), (12, .long (l12l)), (14, .long (l14l)), (16, .int (l16i)), (17, .long (l17l)), (19, .long (l19l)), (21, .int (l21i)), (22, .long (l22l))] [] (n, sl, SH, FI, FL, FR) (RX12_exec_1039 K18 a1 a2 a3 l4i l6i l7i l8i l9i l10i l11i l12l l14l l16i l17l l19l l21i n sl SH FI FL FR) := by
  unfold RX12_exec_1039
  refine pw_aloadn (aX12_exec 522 rfl) rfl ?_
  refine pw_iload (aX12_exec 523 rfl) rfl ?_
  refine pw_cf (pw_callV (Bs := [.int (l10i)]) (rest := []) (aX12_exec 524 rfl) um_RX12_330 ujX12_pushes wc_RX12_330.2.2.2.2 (by decide) (by decide) rfl rfl (fun d => rX12_pushes hkb (l10i) n sl SH FI FL FR hok) (fun v0 n0 sl0 SH0 FI0 FL0 FR0 _ hC => ?_))
  obtain ⟨rfl, hC⟩ := hC; cases hC
  show pw _ _ _ _ _ _ _ 1045 _ [.int (fX12_pushes (l10i) SH FI FL FR)] _ _
  refine pw_ifeq (tgt := 1064) (aX12_exec 525 rfl) (by decide) (fun b1 => ?_) (fun b1 => ?_)
  · skip
    exact pw_Li (L2 := [(0, .ref (base + 121)), (1, .int (a1)), (2, .int (a2)), (3, .int (a3)), (4, .int (l4i)), (5, .int (l5i)), (6, .int (l6i)), (7, .int (l7i)), (8, .int (l8i)), (9, .int (l9i)), (10, .int (l10i)), (11, .int (l11i)), (12, .long (l12l)), (14, .long (l14l)), (16, .int (l16i)), (17, .long (l17l)), (19, .long (l19l)), (21, .int (l21i)), (22, .long (l22l))]) [0, 1, 2, 3, 4, 5, 6, 7, 8, 9, 10, 11, 12, 13, 14, 15, 16, 17, 18] (rX12_exec_1064 hkb a1 a2 a3 (l4i) (l6i) (l7i) (l8i) (l9i) (l10i) (l11i) (l12l) (l14l) (l16i) (l17l) (l19l) (l21i) (l5i) (l22l) n sl SH FI FL FR hok  hK18) ⟨rfl, rfl, rfl, rfl, rfl, rfl, rfl, rfl, rfl, rfl, rfl, rfl, rfl, rfl, rfl, rfl, rfl, rfl, rfl, trivial⟩
  · skip
    refine pw_iload (aX12_exec 526 rfl) rfl ?_
    refine pw_sipush (v := (128 : Int32)) (aX12_exec 527 rfl) rfl ?_
    refine pw_icne (tgt := 1064) (aX12_exec 528 rfl) (by decide) (fun b2 => ?_) (fun b2 => ?_)
    · skip
      refine pw_aloadn (aX12_exec 529 rfl) rfl ?_
      refine pw_iconst (v := (4 : Int32)) (aX12_exec 530 rfl) rfl ?_
      refine pw_iload (aX12_exec 531 rfl) rfl ?_
      refine pw_callV (Bs := [.int ((4 : Int32)), .int (l9i)]) (rest := []) (aX12_exec 532 rfl) um_RX12_270 ujX12_fails wc_RX12_270.2.2.2.2 (by decide) (by decide) rfl rfl (fun d => rX12_fails hkb ((4 : Int32)) (l9i) n sl SH FI FL FR hok) (fun v3 n3 sl3 SH3 FI3 FL3 FR3 hok3 _ => ?_)
      show pw _ _ _ _ _ _ _ 1063 _ [.int (v3)] _ _
      exact pw_iret (aX12_exec 533 rfl) hok3
    · skip
      exact pw_Li (L2 := [(0, .ref (base + 121)), (1, .int (a1)), (2, .int (a2)), (3, .int (a3)), (4, .int (l4i)), (5, .int (l5i)), (6, .int (l6i)), (7, .int (l7i)), (8, .int (l8i)), (9, .int (l9i)), (10, .int (l10i)), (11, .int (l11i)), (12, .long (l12l)), (14, .long (l14l)), (16, .int (l16i)), (17, .long (l17l)), (19, .long (l19l)), (21, .int (l21i)), (22, .long (l22l))]) [0, 1, 2, 3, 4, 5, 6, 7, 8, 9, 10, 11, 12, 13, 14, 15, 16, 17, 18] (rX12_exec_1064 hkb a1 a2 a3 (l4i) (l6i) (l7i) (l8i) (l9i) (l10i) (l11i) (l12l) (l14l) (l16i) (l17l) (l19l) (l21i) (l5i) (l22l) n sl SH FI FL FR hok  hK18) ⟨rfl, rfl, rfl, rfl, rfl, rfl, rfl, rfl, rfl, rfl, rfl, rfl, rfl, rfl, rfl, rfl, rfl, rfl, rfl, trivial⟩
set_option maxHeartbeats 4000000 in
set_option maxRecDepth 100000 in
theorem rX12_exec_999 {sk : xK} {base N d : Nat} {K18 : Int32 → Int32 → Int32 → Int32 → Nat → Nat → (Nat → Nat × Nat) → (Nat → Nat → Int32) → (Nat → Nat → Int64) → (Nat → Nat → Option Nat) → Int32 → hS → Prop} (hkb : x_kb sk base) (a1 : Int32) (a2 : Int32) (a3 : Int32) (l4i : Int32) (l6i : Int32) (l7i : Int32) (l8i : Int32) (l9i : Int32) (l10i : Int32) (l11i : Int32) (l12l : Int64) (l14l : Int64) (l16i : Int32) (l17l : Int64) (l19l : Int64) (l5i : Int32) (l21i : Int32) (l22l : Int64) (n sl : Nat) (SH : Nat → Nat × Nat) (FI : Nat → Nat → Int32) (FL : Nat → Nat → Int64) (FR : Nat → Nat → Option Nat) (hok : pk n SH FR)  (hK18 : ∀ (l4i : Int32) (l5i : Int32) (l6i : Int32) (l7i : Int32) (l8i : Int32) (l9i : Int32) (l10i : Int32) (l11i : Int32) (l12l : Int64) (l14l : Int64) (l16i : Int32) (l17l : Int64) (l19l : Int64) (l21i : Int32) (l22l : Int64) (n sl : Nat) (SH : Nat → Nat × Nat) (FI : Nat → Nat → Int32) (FL : Nat → Nat → Int64) (FR : Nat → Nat → Option Nat), pk n SH FR → pw pj_I sk base N d none 181 18 [(0, .ref (base + 121)), (1, .int (a1)), (2, .int (a2)), (3, .int (a3)), (4, .int (l4i)), (5, .int (l5i)), (6, .int (l6i)), (7, .int (l7i)), (8, .int (l8i)), (9, .int (l9i)), (10, .int (l10i)), (11, .int (l11i)), (12, .long (l12l)), (14, .long (l14l)), (16, .int (l16i)), (17, .long (l17l)), (19, .long (l19l)), (21, .int (l21i)), (22, .long (l22l))] [] (n, sl, SH, FI, FL, FR) (K18 l4i l5i l6i l7i n sl SH FI FL FR)) : pw pj_I sk base N d none 181 999 [(0, .ref (base + 121)), (1, .int (a1)), (2, .int (a2)), (3, .int (a3)), (4, .int (l4i)), (5, .int (l5i)), (6, .int (l6i)), (7, .int (l7i)), (8, .int (l8i)), (9, .int (l9i)), (10, .int (l10i)), (11, .int (l11i)), (12, .long (l12l)), (14, .long (l14l)), (16, .int (l16i)), (17, .long (l17l)), (19, .long (l19l)), (21, .int (l21i)), (22, .long (l22l))] [] (n, sl, SH, FI, FL, FR) (RX12_exec_999 K18 a1 a2 a3 l4i l6i l7i l8i l9i l10i l11i l12l l14l l16i l17l l19l n sl SH FI FL FR) := by
  unfold RX12_exec_999
  refine pw_iload (aX12_exec 499 rfl) rfl ?_
  refine pw_i2l (aX12_exec 500 rfl) ?_
  refine pw_lload (aX12_exec 501 rfl) rfl ?_
  refine pw_ladd (aX12_exec 502 rfl) ?_
  refine pw_lstore (L2 := [(22, .long (((l11i).toInt64) + (l12l))), (0, .ref (base + 121)), (1, .int (a1)), (2, .int (a2)), (3, .int (a3)), (4, .int (l4i)), (5, .int (l5i)), (6, .int (l6i)), (7, .int (l7i)), (8, .int (l8i)), (9, .int (l9i)), (10, .int (l10i)), (11, .int (l11i)), (12, .long (l12l)), (14, .long (l14l)), (16, .int (l16i)), (17, .long (l17l)), (19, .long (l19l)), (21, .int (l21i))]) (aX12_exec 503 rfl) rfl ?_
  refine pw_lload (aX12_exec 504 rfl) rfl ?_
  refine pw_iload (aX12_exec 505 rfl) rfl ?_
  refine pw_i2l (aX12_exec 506 rfl) ?_
  refine pw_lclt (tgt := 1025) (aX12_exec 507 rfl) (aX12_exec 508 rfl) (by decide) (fun b0 => ?_) (fun b0 => ?_)
  · skip
    refine pw_aloadn (aX12_exec 514 rfl) rfl ?_
    refine pw_bipush (v := (7 : Int32)) (aX12_exec 515 rfl) rfl ?_
    refine pw_iload (aX12_exec 516 rfl) rfl ?_
    refine pw_callV (Bs := [.int ((7 : Int32)), .int (l9i)]) (rest := []) (aX12_exec 517 rfl) um_RX12_270 ujX12_fails wc_RX12_270.2.2.2.2 (by decide) (by decide) rfl rfl (fun d => rX12_fails hkb ((7 : Int32)) (l9i) n sl SH FI FL FR hok) (fun v1 n1 sl1 SH1 FI1 FL1 FR1 hok1 _ => ?_)
    show pw _ _ _ _ _ _ _ 1033 _ [.int (v1)] _ _
    exact pw_iret (aX12_exec 518 rfl) hok1
  · skip
    refine pw_lload (aX12_exec 509 rfl) rfl ?_
    refine pw_iload (aX12_exec 510 rfl) rfl ?_
    refine pw_i2l (aX12_exec 511 rfl) ?_
    refine pw_lcle (tgt := 1034) (aX12_exec 512 rfl) (aX12_exec 513 rfl) (by decide) (fun b2 => ?_) (fun b2 => ?_)
    · skip
      refine pw_aloadn (aX12_exec 514 rfl) rfl ?_
      refine pw_bipush (v := (7 : Int32)) (aX12_exec 515 rfl) rfl ?_
      refine pw_iload (aX12_exec 516 rfl) rfl ?_
      refine pw_callV (Bs := [.int ((7 : Int32)), .int (l9i)]) (rest := []) (aX12_exec 517 rfl) um_RX12_270 ujX12_fails wc_RX12_270.2.2.2.2 (by decide) (by decide) rfl rfl (fun d => rX12_fails hkb ((7 : Int32)) (l9i) n sl SH FI FL FR hok) (fun v3 n3 sl3 SH3 FI3 FL3 FR3 hok3 _ => ?_)
      show pw _ _ _ _ _ _ _ 1033 _ [.int (v3)] _ _
      exact pw_iret (aX12_exec 518 rfl) hok3
    · skip
      refine pw_lload (aX12_exec 519 rfl) rfl ?_
      refine pw_l2i (aX12_exec 520 rfl) ?_
      refine pw_istore (L2 := [(21, .int ((((l11i).toInt64) + (l12l)).toInt32)), (22, .long (((l11i).toInt64) + (l12l))), (0, .ref (base + 121)), (1, .int (a1)), (2, .int (a2)), (3, .int (a3)), (4, .int (l4i)), (5, .int (l5i)), (6, .int (l6i)), (7, .int (l7i)), (8, .int (l8i)), (9, .int (l9i)), (10, .int (l10i)), (11, .int (l11i)), (12, .long (l12l)), (14, .long (l14l)), (16, .int (l16i)), (17, .long (l17l)), (19, .long (l19l))]) (aX12_exec 521 rfl) rfl ?_
      exact pw_Li (L2 := [(0, .ref (base + 121)), (1, .int (a1)), (2, .int (a2)), (3, .int (a3)), (4, .int (l4i)), (5, .int (l5i)), (6, .int (l6i)), (7, .int (l7i)), (8, .int (l8i)), (9, .int (l9i)), (10, .int (l10i)), (11, .int (l11i)), (12, .long (l12l)), (14, .long (l14l)), (16, .int (l16i)), (17, .long (l17l)), (19, .long (l19l)), (21, .int ((((l11i).toInt64) + (l12l)).toInt32)), (22, .long (((l11i).toInt64) + (l12l)))]) [17, 18, 0, 1, 2, 3, 4, 5, 6, 7, 8, 9, 10, 11, 12, 13, 14, 15, 16] (rX12_exec_1039 hkb a1 a2 a3 (l4i) (l6i) (l7i) (l8i) (l9i) (l10i) (l11i) (l12l) (l14l) (l16i) (l17l) (l19l) ((((l11i).toInt64) + (l12l)).toInt32) (l5i) (((l11i).toInt64) + (l12l)) n sl SH FI FL FR hok  hK18) ⟨rfl, rfl, rfl, rfl, rfl, rfl, rfl, rfl, rfl, rfl, rfl, rfl, rfl, rfl, rfl, rfl, rfl, rfl, rfl, trivial⟩
set_option maxHeartbeats 4000000 in
set_option maxRecDepth 100000 in
theorem rX12_exec_974 {sk : xK} {base N d : Nat} {K18 : Int32 → Int32 → Int32 → Int32 → Nat → Nat → (Nat → Nat × Nat) → (Nat → Nat → Int32) → (Nat → Nat → Int64) → (Nat → Nat → Option Nat) → Int32 → hS → Prop} (hkb : x_kb sk base) (a1 : Int32) (a2 : Int32) (a3 : Int32) (l4i : Int32) (l6i : Int32) (l7i : Int32) (l8i : Int32) (l9i : Int32) (l10i : Int32) (l11i : Int32) (l12l : Int64) (l14l : Int64) (l16i : Int32) (l17l : Int64) (l19l : Int64) (l5i : Int32) (l21i : Int32) (l22l : Int64) (n sl : Nat) (SH : Nat → Nat × Nat) (FI : Nat → Nat → Int32) (FL : Nat → Nat → Int64) (FR : Nat → Nat → Option Nat) (hok : pk n SH FR)  (hK18 : ∀ (l4i : Int32) (l5i : Int32) (l6i : Int32) (l7i : Int32) (l8i : Int32) (l9i : Int32) (l10i : Int32) (l11i : Int32) (l12l : Int64) (l14l : Int64) (l16i : Int32) (l17l : Int64) (l19l : Int64) (l21i : Int32) (l22l : Int64) (n sl : Nat) (SH : Nat → Nat × Nat) (FI : Nat → Nat → Int32) (FL : Nat → Nat → Int64) (FR : Nat → Nat → Option Nat), pk n SH FR → pw pj_I sk base N d none 181 18 [(0, .ref (base + 121)), (1, .int (a1)), (2, .int (a2)), (3, .int (a3)), (4, .int (l4i)), (5, .int (l5i)), (6, .int (l6i)), (7, .int (l7i)), (8, .int (l8i)), (9, .int (l9i)), (10, .int (l10i)), (11, .int (l11i)), (12, .long (l12l)), (14, .long (l14l)), (16, .int (l16i)), (17, .long (l17l)), (19, .long (l19l)), (21, .int (l21i)), (22, .long (l22l))] [] (n, sl, SH, FI, FL, FR) (K18 l4i l5i l6i l7i n sl SH FI FL FR)) : pw pj_I sk base N d none 181 974 [(0, .ref (base + 121)), (1, .int (a1)), (2, .int (a2)), (3, .int (a3)), (4, .int (l4i)), (5, .int (l5i)), (6, .int (l6i)), (7, .int (l7i)), (8, .int (l8i)), (9, .int (l9i)), (10, .int (l10i)), (11, .int (l11i)), (12, .long (l12l)), (14, .long (l14l)), (16, .int (l16i)), (17, .long (l17l)), (19, .long (l19l)), (21, .int (l21i)), (22, .long (l22l))] [] (n, sl, SH, FI, FL, FR) (RX12_exec_974 K18 a1 a2 a3 l4i l6i l7i l8i l9i l10i l11i l12l l14l l16i l17l l19l n sl SH FI FL FR) := by
  unfold RX12_exec_974
  refine pw_iload (aX12_exec 487 rfl) rfl ?_
  refine pw_istore (L2 := [(21, .int (l11i)), (0, .ref (base + 121)), (1, .int (a1)), (2, .int (a2)), (3, .int (a3)), (4, .int (l4i)), (5, .int (l5i)), (6, .int (l6i)), (7, .int (l7i)), (8, .int (l8i)), (9, .int (l9i)), (10, .int (l10i)), (11, .int (l11i)), (12, .long (l12l)), (14, .long (l14l)), (16, .int (l16i)), (17, .long (l17l)), (19, .long (l19l)), (22, .long (l22l))]) (aX12_exec 488 rfl) rfl ?_
  refine pw_iload (aX12_exec 489 rfl) rfl ?_
  refine pw_bipush (v := (47 : Int32)) (aX12_exec 490 rfl) rfl ?_
  refine pw_iceq (tgt := 999) (aX12_exec 491 rfl) (by decide) (fun b0 => ?_) (fun b0 => ?_)
  · skip
    exact pw_Li (L2 := [(0, .ref (base + 121)), (1, .int (a1)), (2, .int (a2)), (3, .int (a3)), (4, .int (l4i)), (5, .int (l5i)), (6, .int (l6i)), (7, .int (l7i)), (8, .int (l8i)), (9, .int (l9i)), (10, .int (l10i)), (11, .int (l11i)), (12, .long (l12l)), (14, .long (l14l)), (16, .int (l16i)), (17, .long (l17l)), (19, .long (l19l)), (21, .int (l11i)), (22, .long (l22l))]) [17, 0, 1, 2, 3, 4, 5, 6, 7, 8, 9, 10, 11, 12, 13, 14, 15, 16, 18] (rX12_exec_999 hkb a1 a2 a3 (l4i) (l6i) (l7i) (l8i) (l9i) (l10i) (l11i) (l12l) (l14l) (l16i) (l17l) (l19l) (l5i) (l11i) (l22l) n sl SH FI FL FR hok  hK18) ⟨rfl, rfl, rfl, rfl, rfl, rfl, rfl, rfl, rfl, rfl, rfl, rfl, rfl, rfl, rfl, rfl, rfl, rfl, rfl, trivial⟩
  · skip
    refine pw_iload (aX12_exec 492 rfl) rfl ?_
    refine pw_bipush (v := (40 : Int32)) (aX12_exec 493 rfl) rfl ?_
    refine pw_icne (tgt := 1039) (aX12_exec 494 rfl) (by decide) (fun b1 => ?_) (fun b1 => ?_)
    · skip
      refine pw_lload (aX12_exec 495 rfl) rfl ?_
      refine pw_lconst (v := (0 : Int64)) (aX12_exec 496 rfl) rfl ?_
      refine pw_lceq (tgt := 1039) (aX12_exec 497 rfl) (aX12_exec 498 rfl) (by decide) (fun b2 => ?_) (fun b2 => ?_)
      · skip
        exact pw_Li (L2 := [(0, .ref (base + 121)), (1, .int (a1)), (2, .int (a2)), (3, .int (a3)), (4, .int (l4i)), (5, .int (l5i)), (6, .int (l6i)), (7, .int (l7i)), (8, .int (l8i)), (9, .int (l9i)), (10, .int (l10i)), (11, .int (l11i)), (12, .long (l12l)), (14, .long (l14l)), (16, .int (l16i)), (17, .long (l17l)), (19, .long (l19l)), (21, .int (l11i)), (22, .long (l22l))]) [17, 0, 1, 2, 3, 4, 5, 6, 7, 8, 9, 10, 11, 12, 13, 14, 15, 16, 18] (rX12_exec_1039 hkb a1 a2 a3 (l4i) (l6i) (l7i) (l8i) (l9i) (l10i) (l11i) (l12l) (l14l) (l16i) (l17l) (l19l) (l11i) (l5i) (l22l) n sl SH FI FL FR hok  hK18) ⟨rfl, rfl, rfl, rfl, rfl, rfl, rfl, rfl, rfl, rfl, rfl, rfl, rfl, rfl, rfl, rfl, rfl, rfl, rfl, trivial⟩
      · skip
        exact pw_Li (L2 := [(0, .ref (base + 121)), (1, .int (a1)), (2, .int (a2)), (3, .int (a3)), (4, .int (l4i)), (5, .int (l5i)), (6, .int (l6i)), (7, .int (l7i)), (8, .int (l8i)), (9, .int (l9i)), (10, .int (l10i)), (11, .int (l11i)), (12, .long (l12l)), (14, .long (l14l)), (16, .int (l16i)), (17, .long (l17l)), (19, .long (l19l)), (21, .int (l11i)), (22, .long (l22l))]) [17, 0, 1, 2, 3, 4, 5, 6, 7, 8, 9, 10, 11, 12, 13, 14, 15, 16, 18] (rX12_exec_999 hkb a1 a2 a3 (l4i) (l6i) (l7i) (l8i) (l9i) (l10i) (l11i) (l12l) (l14l) (l16i) (l17l) (l19l) (l5i) (l11i) (l22l) n sl SH FI FL FR hok  hK18) ⟨rfl, rfl, rfl, rfl, rfl, rfl, rfl, rfl, rfl, rfl, rfl, rfl, rfl, rfl, rfl, rfl, rfl, rfl, rfl, trivial⟩
    · skip
      exact pw_Li (L2 := [(0, .ref (base + 121)), (1, .int (a1)), (2, .int (a2)), (3, .int (a3)), (4, .int (l4i)), (5, .int (l5i)), (6, .int (l6i)), (7, .int (l7i)), (8, .int (l8i)), (9, .int (l9i)), (10, .int (l10i)), (11, .int (l11i)), (12, .long (l12l)), (14, .long (l14l)), (16, .int (l16i)), (17, .long (l17l)), (19, .long (l19l)), (21, .int (l11i)), (22, .long (l22l))]) [17, 0, 1, 2, 3, 4, 5, 6, 7, 8, 9, 10, 11, 12, 13, 14, 15, 16, 18] (rX12_exec_1039 hkb a1 a2 a3 (l4i) (l6i) (l7i) (l8i) (l9i) (l10i) (l11i) (l12l) (l14l) (l16i) (l17l) (l19l) (l11i) (l5i) (l22l) n sl SH FI FL FR hok  hK18) ⟨rfl, rfl, rfl, rfl, rfl, rfl, rfl, rfl, rfl, rfl, rfl, rfl, rfl, rfl, rfl, rfl, rfl, rfl, rfl, trivial⟩
set_option maxHeartbeats 4000000 in
set_option maxRecDepth 100000 in
theorem rX12_exec_958 {sk : xK} {base N d : Nat} {K18 : Int32 → Int32 → Int32 → Int32 → Nat → Nat → (Nat → Nat × Nat) → (Nat → Nat → Int32) → (Nat → Nat → Int64) → (Nat → Nat → Option Nat) → Int32 → hS → Prop} (hkb : x_kb sk base) (a1 : Int32) (a2 : Int32) (a3 : Int32) (l4i : Int32) (l6i : Int32) (l7i : Int32) (l8i : Int32) (l9i : Int32) (l10i : Int32) (l11i : Int32) (l12l : Int64) (l14l : Int64) (l16i : Int32) (l17l : Int64) (l19l : Int64) (l5i : Int32) (l21i : Int32) (l22l : Int64) (n sl : Nat) (SH : Nat → Nat × Nat) (FI : Nat → Nat → Int32) (FL : Nat → Nat → Int64) (FR : Nat → Nat → Option Nat) (hok : pk n SH FR)  (hK18 : ∀ (l4i : Int32) (l5i : Int32) (l6i : Int32) (l7i : Int32) (l8i : Int32) (l9i : Int32) (l10i : Int32) (l11i : Int32) (l12l : Int64) (l14l : Int64) (l16i : Int32) (l17l : Int64) (l19l : Int64) (l21i : Int32) (l22l : Int64) (n sl : Nat) (SH : Nat → Nat × Nat) (FI : Nat → Nat → Int32) (FL : Nat → Nat → Int64) (FR : Nat → Nat → Option Nat), pk n SH FR → pw pj_I sk base N d none 181 18 [(0, .ref (base + 121)), (1, .int (a1)), (2, .int (a2)), (3, .int (a3)), (4, .int (l4i)), (5, .int (l5i)), (6, .int (l6i)), (7, .int (l7i)), (8, .int (l8i)), (9, .int (l9i)), (10, .int (l10i)), (11, .int (l11i)), (12, .long (l12l)), (14, .long (l14l)), (16, .int (l16i)), (17, .long (l17l)), (19, .long (l19l)), (21, .int (l21i)), (22, .long (l22l))] [] (n, sl, SH, FI, FL, FR) (K18 l4i l5i l6i l7i n sl SH FI FL FR)) : pw pj_I sk base N d none 181 958 [(0, .ref (base + 121)), (1, .int (a1)), (2, .int (a2)), (3, .int (a3)), (4, .int (l4i)), (5, .int (l5i)), (6, .int (l6i)), (7, .int (l7i)), (8, .int (l8i)), (9, .int (l9i)), (10, .int (l10i)), (11, .int (l11i)), (12, .long (l12l)), (14, .long (l14l)), (16, .int (l16i)), (17, .long (l17l)), (19, .long (l19l)), (21, .int (l21i)), (22, .long (l22l))] [] (n, sl, SH, FI, FL, FR) (RX12_exec_958 K18 a1 a2 a3 l4i l6i l7i l8i l9i l10i l11i l12l l14l l16i l17l l19l n sl SH FI FL FR) := by
  unfold RX12_exec_958
  refine pw_lload (aX12_exec 478 rfl) rfl ?_
  refine pw_lconst (v := (0 : Int64)) (aX12_exec 479 rfl) rfl ?_
  refine pw_lcne (tgt := 974) (aX12_exec 480 rfl) (aX12_exec 481 rfl) (by decide) (fun b0 => ?_) (fun b0 => ?_)
  · skip
    refine pw_aloadn (aX12_exec 482 rfl) rfl ?_
    refine pw_bipush (v := (6 : Int32)) (aX12_exec 483 rfl) rfl ?_
    refine pw_iload (aX12_exec 484 rfl) rfl ?_
    refine pw_callV (Bs := [.int ((6 : Int32)), .int (l9i)]) (rest := []) (aX12_exec 485 rfl) um_RX12_270 ujX12_fails wc_RX12_270.2.2.2.2 (by decide) (by decide) rfl rfl (fun d => rX12_fails hkb ((6 : Int32)) (l9i) n sl SH FI FL FR hok) (fun v1 n1 sl1 SH1 FI1 FL1 FR1 hok1 _ => ?_)
    show pw _ _ _ _ _ _ _ 973 _ [.int (v1)] _ _
    exact pw_iret (aX12_exec 486 rfl) hok1
  · skip
    exact pw_Li (L2 := [(0, .ref (base + 121)), (1, .int (a1)), (2, .int (a2)), (3, .int (a3)), (4, .int (l4i)), (5, .int (l5i)), (6, .int (l6i)), (7, .int (l7i)), (8, .int (l8i)), (9, .int (l9i)), (10, .int (l10i)), (11, .int (l11i)), (12, .long (l12l)), (14, .long (l14l)), (16, .int (l16i)), (17, .long (l17l)), (19, .long (l19l)), (21, .int (l21i)), (22, .long (l22l))]) [0, 1, 2, 3, 4, 5, 6, 7, 8, 9, 10, 11, 12, 13, 14, 15, 16, 17, 18] (rX12_exec_974 hkb a1 a2 a3 (l4i) (l6i) (l7i) (l8i) (l9i) (l10i) (l11i) (l12l) (l14l) (l16i) (l17l) (l19l) (l5i) (l21i) (l22l) n sl SH FI FL FR hok  hK18) ⟨rfl, rfl, rfl, rfl, rfl, rfl, rfl, rfl, rfl, rfl, rfl, rfl, rfl, rfl, rfl, rfl, rfl, rfl, rfl, trivial⟩
set_option maxHeartbeats 4000000 in
set_option maxRecDepth 100000 in
theorem rX12_exec_944 {sk : xK} {base N d : Nat} {K18 : Int32 → Int32 → Int32 → Int32 → Nat → Nat → (Nat → Nat × Nat) → (Nat → Nat → Int32) → (Nat → Nat → Int64) → (Nat → Nat → Option Nat) → Int32 → hS → Prop} (hkb : x_kb sk base) (a1 : Int32) (a2 : Int32) (a3 : Int32) (l4i : Int32) (l6i : Int32) (l7i : Int32) (l8i : Int32) (l9i : Int32) (l10i : Int32) (l11i : Int32) (l12l : Int64) (l14l : Int64) (l16i : Int32) (l17l : Int64) (l19l : Int64) (l5i : Int32) (l21i : Int32) (l22l : Int64) (n sl : Nat) (SH : Nat → Nat × Nat) (FI : Nat → Nat → Int32) (FL : Nat → Nat → Int64) (FR : Nat → Nat → Option Nat) (hok : pk n SH FR)  (hK18 : ∀ (l4i : Int32) (l5i : Int32) (l6i : Int32) (l7i : Int32) (l8i : Int32) (l9i : Int32) (l10i : Int32) (l11i : Int32) (l12l : Int64) (l14l : Int64) (l16i : Int32) (l17l : Int64) (l19l : Int64) (l21i : Int32) (l22l : Int64) (n sl : Nat) (SH : Nat → Nat × Nat) (FI : Nat → Nat → Int32) (FL : Nat → Nat → Int64) (FR : Nat → Nat → Option Nat), pk n SH FR → pw pj_I sk base N d none 181 18 [(0, .ref (base + 121)), (1, .int (a1)), (2, .int (a2)), (3, .int (a3)), (4, .int (l4i)), (5, .int (l5i)), (6, .int (l6i)), (7, .int (l7i)), (8, .int (l8i)), (9, .int (l9i)), (10, .int (l10i)), (11, .int (l11i)), (12, .long (l12l)), (14, .long (l14l)), (16, .int (l16i)), (17, .long (l17l)), (19, .long (l19l)), (21, .int (l21i)), (22, .long (l22l))] [] (n, sl, SH, FI, FL, FR) (K18 l4i l5i l6i l7i n sl SH FI FL FR)) : pw pj_I sk base N d none 181 944 [(0, .ref (base + 121)), (1, .int (a1)), (2, .int (a2)), (3, .int (a3)), (4, .int (l4i)), (5, .int (l5i)), (6, .int (l6i)), (7, .int (l7i)), (8, .int (l8i)), (9, .int (l9i)), (10, .int (l10i)), (11, .int (l11i)), (12, .long (l12l)), (14, .long (l14l)), (16, .int (l16i)), (17, .long (l17l)), (19, .long (l19l)), (21, .int (l21i)), (22, .long (l22l))] [] (n, sl, SH, FI, FL, FR) (RX12_exec_944 K18 a1 a2 a3 l4i l6i l7i l8i l9i l10i l11i l12l l14l l16i l17l l19l n sl SH FI FL FR) := by
  unfold RX12_exec_944
  refine pw_iload (aX12_exec 472 rfl) rfl ?_
  refine pw_bipush (v := (27 : Int32)) (aX12_exec 473 rfl) rfl ?_
  refine pw_iceq (tgt := 958) (aX12_exec 474 rfl) (by decide) (fun b0 => ?_) (fun b0 => ?_)
  · skip
    exact pw_Li (L2 := [(0, .ref (base + 121)), (1, .int (a1)), (2, .int (a2)), (3, .int (a3)), (4, .int (l4i)), (5, .int (l5i)), (6, .int (l6i)), (7, .int (l7i)), (8, .int (l8i)), (9, .int (l9i)), (10, .int (l10i)), (11, .int (l11i)), (12, .long (l12l)), (14, .long (l14l)), (16, .int (l16i)), (17, .long (l17l)), (19, .long (l19l)), (21, .int (l21i)), (22, .long (l22l))]) [0, 1, 2, 3, 4, 5, 6, 7, 8, 9, 10, 11, 12, 13, 14, 15, 16, 17, 18] (rX12_exec_958 hkb a1 a2 a3 (l4i) (l6i) (l7i) (l8i) (l9i) (l10i) (l11i) (l12l) (l14l) (l16i) (l17l) (l19l) (l5i) (l21i) (l22l) n sl SH FI FL FR hok  hK18) ⟨rfl, rfl, rfl, rfl, rfl, rfl, rfl, rfl, rfl, rfl, rfl, rfl, rfl, rfl, rfl, rfl, rfl, rfl, rfl, trivial⟩
  · skip
    refine pw_iload (aX12_exec 475 rfl) rfl ?_
    refine pw_bipush (v := (29 : Int32)) (aX12_exec 476 rfl) rfl ?_
    refine pw_icne (tgt := 974) (aX12_exec 477 rfl) (by decide) (fun b1 => ?_) (fun b1 => ?_)
    · skip
      exact pw_Li (L2 := [(0, .ref (base + 121)), (1, .int (a1)), (2, .int (a2)), (3, .int (a3)), (4, .int (l4i)), (5, .int (l5i)), (6, .int (l6i)), (7, .int (l7i)), (8, .int (l8i)), (9, .int (l9i)), (10, .int (l10i)), (11, .int (l11i)), (12, .long (l12l)), (14, .long (l14l)), (16, .int (l16i)), (17, .long (l17l)), (19, .long (l19l)), (21, .int (l21i)), (22, .long (l22l))]) [0, 1, 2, 3, 4, 5, 6, 7, 8, 9, 10, 11, 12, 13, 14, 15, 16, 17, 18] (rX12_exec_958 hkb a1 a2 a3 (l4i) (l6i) (l7i) (l8i) (l9i) (l10i) (l11i) (l12l) (l14l) (l16i) (l17l) (l19l) (l5i) (l21i) (l22l) n sl SH FI FL FR hok  hK18) ⟨rfl, rfl, rfl, rfl, rfl, rfl, rfl, rfl, rfl, rfl, rfl, rfl, rfl, rfl, rfl, rfl, rfl, rfl, rfl, trivial⟩
    · skip
      exact pw_Li (L2 := [(0, .ref (base + 121)), (1, .int (a1)), (2, .int (a2)), (3, .int (a3)), (4, .int (l4i)), (5, .int (l5i)), (6, .int (l6i)), (7, .int (l7i)), (8, .int (l8i)), (9, .int (l9i)), (10, .int (l10i)), (11, .int (l11i)), (12, .long (l12l)), (14, .long (l14l)), (16, .int (l16i)), (17, .long (l17l)), (19, .long (l19l)), (21, .int (l21i)), (22, .long (l22l))]) [0, 1, 2, 3, 4, 5, 6, 7, 8, 9, 10, 11, 12, 13, 14, 15, 16, 17, 18] (rX12_exec_974 hkb a1 a2 a3 (l4i) (l6i) (l7i) (l8i) (l9i) (l10i) (l11i) (l12l) (l14l) (l16i) (l17l) (l19l) (l5i) (l21i) (l22l) n sl SH FI FL FR hok  hK18) ⟨rfl, rfl, rfl, rfl, rfl, rfl, rfl, rfl, rfl, rfl, rfl, rfl, rfl, rfl, rfl, rfl, rfl, rfl, rfl, trivial⟩
set_option maxHeartbeats 4000000 in
set_option maxRecDepth 100000 in
theorem rX12_exec_917 {sk : xK} {base N d : Nat} {K18 : Int32 → Int32 → Int32 → Int32 → Nat → Nat → (Nat → Nat × Nat) → (Nat → Nat → Int32) → (Nat → Nat → Int64) → (Nat → Nat → Option Nat) → Int32 → hS → Prop} (hkb : x_kb sk base) (a1 : Int32) (a2 : Int32) (a3 : Int32) (l4i : Int32) (l6i : Int32) (l7i : Int32) (l8i : Int32) (l9i : Int32) (l10i : Int32) (l11i : Int32) (l12l : Int64) (l14l : Int64) (l16i : Int32) (l17l : Int64) (l19l : Int64) (l5i : Int32) (l21i : Int32) (l22l : Int64) (n sl : Nat) (SH : Nat → Nat × Nat) (FI : Nat → Nat → Int32) (FL : Nat → Nat → Int64) (FR : Nat → Nat → Option Nat) (hok : pk n SH FR)  (hK18 : ∀ (l4i : Int32) (l5i : Int32) (l6i : Int32) (l7i : Int32) (l8i : Int32) (l9i : Int32) (l10i : Int32) (l11i : Int32) (l12l : Int64) (l14l : Int64) (l16i : Int32) (l17l : Int64) (l19l : Int64) (l21i : Int32) (l22l : Int64) (n sl : Nat) (SH : Nat → Nat × Nat) (FI : Nat → Nat → Int32) (FL : Nat → Nat → Int64) (FR : Nat → Nat → Option Nat), pk n SH FR → pw pj_I sk base N d none 181 18 [(0, .ref (base + 121)), (1, .int (a1)), (2, .int (a2)), (3, .int (a3)), (4, .int (l4i)), (5, .int (l5i)), (6, .int (l6i)), (7, .int (l7i)), (8, .int (l8i)), (9, .int (l9i)), (10, .int (l10i)), (11, .int (l11i)), (12, .long (l12l)), (14, .long (l14l)), (16, .int (l16i)), (17, .long (l17l)), (19, .long (l19l)), (21, .int (l21i)), (22, .long (l22l))] [] (n, sl, SH, FI, FL, FR) (K18 l4i l5i l6i l7i n sl SH FI FL FR)) : pw pj_I sk base N d none 181 917 [(0, .ref (base + 121)), (1, .int (a1)), (2, .int (a2)), (3, .int (a3)), (4, .int (l4i)), (5, .int (l5i)), (6, .int (l6i)), (7, .int (l7i)), (8, .int (l8i)), (9, .int (l9i)), (10, .int (l10i)), (11, .int (l11i)), (12, .long (l12l)), (14, .long (l14l)), (16, .int (l16i)), (17, .long (l17l)), (19, .long (l19l)), (21, .int (l21i)), (22, .long (l22l))] [] (n, sl, SH, FI, FL, FR) (RX12_exec_917 K18 a1 a2 a3 l4i l6i l7i l8i l9i l10i l11i l12l l14l l16i l17l l19l n sl SH FI FL FR) := by
  unfold RX12_exec_917
  refine pw_iload (aX12_exec 459 rfl) rfl ?_
  refine pw_sipush (v := (148 : Int32)) (aX12_exec 460 rfl) rfl ?_
  refine pw_icne (tgt := 944) (aX12_exec 461 rfl) (by decide) (fun b0 => ?_) (fun b0 => ?_)
  · skip
    refine pw_aloadn (aX12_exec 462 rfl) rfl ?_
    refine pw_lload (aX12_exec 463 rfl) rfl ?_
    refine pw_lload (aX12_exec 464 rfl) rfl ?_
    refine pw_cf (pw_callV (Bs := [.long (l17l), .long (l12l)]) (rest := []) (aX12_exec 465 rfl) um_RX12_327 ujX12_isThere wc_RX12_327.2.2.2.2 (by decide) (by decide) rfl rfl (fun d => rX12_isThere hkb (l17l) (l12l) n sl SH FI FL FR hok) (fun v1 n1 sl1 SH1 FI1 FL1 FR1 _ hC => ?_))
    obtain ⟨rfl, hC⟩ := hC; cases hC
    show pw _ _ _ _ _ _ _ 933 _ [.int (fX12_isThere (l17l) (l12l) SH FI FL FR)] _ _
    refine pw_ifne (tgt := 944) (aX12_exec 466 rfl) (by decide) (fun b2 => ?_) (fun b2 => ?_)
    · skip
      refine pw_aloadn (aX12_exec 467 rfl) rfl ?_
      refine pw_iconst (v := (5 : Int32)) (aX12_exec 468 rfl) rfl ?_
      refine pw_iload (aX12_exec 469 rfl) rfl ?_
      refine pw_callV (Bs := [.int ((5 : Int32)), .int (l9i)]) (rest := []) (aX12_exec 470 rfl) um_RX12_270 ujX12_fails wc_RX12_270.2.2.2.2 (by decide) (by decide) rfl rfl (fun d => rX12_fails hkb ((5 : Int32)) (l9i) n sl SH FI FL FR hok) (fun v3 n3 sl3 SH3 FI3 FL3 FR3 hok3 _ => ?_)
      show pw _ _ _ _ _ _ _ 943 _ [.int (v3)] _ _
      exact pw_iret (aX12_exec 471 rfl) hok3
    · skip
      exact pw_Li (L2 := [(0, .ref (base + 121)), (1, .int (a1)), (2, .int (a2)), (3, .int (a3)), (4, .int (l4i)), (5, .int (l5i)), (6, .int (l6i)), (7, .int (l7i)), (8, .int (l8i)), (9, .int (l9i)), (10, .int (l10i)), (11, .int (l11i)), (12, .long (l12l)), (14, .long (l14l)), (16, .int (l16i)), (17, .long (l17l)), (19, .long (l19l)), (21, .int (l21i)), (22, .long (l22l))]) [0, 1, 2, 3, 4, 5, 6, 7, 8, 9, 10, 11, 12, 13, 14, 15, 16, 17, 18] (rX12_exec_944 hkb a1 a2 a3 (l4i) (l6i) (l7i) (l8i) (l9i) (l10i) (l11i) (l12l) (l14l) (l16i) (l17l) (l19l) (l5i) (l21i) (l22l) n sl SH FI FL FR hok  hK18) ⟨rfl, rfl, rfl, rfl, rfl, rfl, rfl, rfl, rfl, rfl, rfl, rfl, rfl, rfl, rfl, rfl, rfl, rfl, rfl, trivial⟩
  · skip
    exact pw_Li (L2 := [(0, .ref (base + 121)), (1, .int (a1)), (2, .int (a2)), (3, .int (a3)), (4, .int (l4i)), (5, .int (l5i)), (6, .int (l6i)), (7, .int (l7i)), (8, .int (l8i)), (9, .int (l9i)), (10, .int (l10i)), (11, .int (l11i)), (12, .long (l12l)), (14, .long (l14l)), (16, .int (l16i)), (17, .long (l17l)), (19, .long (l19l)), (21, .int (l21i)), (22, .long (l22l))]) [0, 1, 2, 3, 4, 5, 6, 7, 8, 9, 10, 11, 12, 13, 14, 15, 16, 17, 18] (rX12_exec_944 hkb a1 a2 a3 (l4i) (l6i) (l7i) (l8i) (l9i) (l10i) (l11i) (l12l) (l14l) (l16i) (l17l) (l19l) (l5i) (l21i) (l22l) n sl SH FI FL FR hok  hK18) ⟨rfl, rfl, rfl, rfl, rfl, rfl, rfl, rfl, rfl, rfl, rfl, rfl, rfl, rfl, rfl, rfl, rfl, rfl, rfl, trivial⟩
set_option maxHeartbeats 4000000 in
set_option maxRecDepth 100000 in
theorem rX12_exec_813 {sk : xK} {base N d : Nat} {K18 : Int32 → Int32 → Int32 → Int32 → Nat → Nat → (Nat → Nat × Nat) → (Nat → Nat → Int32) → (Nat → Nat → Int64) → (Nat → Nat → Option Nat) → Int32 → hS → Prop} (hkb : x_kb sk base) (a1 : Int32) (a2 : Int32) (a3 : Int32) (l4i : Int32) (l6i : Int32) (l7i : Int32) (l8i : Int32) (l9i : Int32) (l10i : Int32) (l11i : Int32) (l12l : Int64) (l14l : Int64) (l16i : Int32) (l17l : Int64) (l19l : Int64) (l5i : Int32) (l21i : Int32) (l22l : Int64) (n sl : Nat) (SH : Nat → Nat × Nat) (FI : Nat → Nat → Int32) (FL : Nat → Nat → Int64) (FR : Nat → Nat → Option Nat) (hok : pk n SH FR)  (hK18 : ∀ (l4i : Int32) (l5i : Int32) (l6i : Int32) (l7i : Int32) (l8i : Int32) (l9i : Int32) (l10i : Int32) (l11i : Int32) (l12l : Int64) (l14l : Int64) (l16i : Int32) (l17l : Int64) (l19l : Int64) (l21i : Int32) (l22l : Int64) (n sl : Nat) (SH : Nat → Nat × Nat) (FI : Nat → Nat → Int32) (FL : Nat → Nat → Int64) (FR : Nat → Nat → Option Nat), pk n SH FR → pw pj_I sk base N d none 181 18 [(0, .ref (base + 121)), (1, .int (a1)), (2, .int (a2)), (3, .int (a3)), (4, .int (l4i)), (5, .int (l5i)), (6, .int (l6i)), (7, .int (l7i)), (8, .int (l8i)), (9, .int (l9i)), (10, .int (l10i)), (11, .int (l11i)), (12, .long (l12l)), (14, .long (l14l)), (16, .int (l16i)), (17, .long (l17l)), (19, .long (l19l)), (21, .int (l21i)), (22, .long (l22l))] [] (n, sl, SH, FI, FL, FR) (K18 l4i l5i l6i l7i n sl SH FI FL FR)) : pw pj_I sk base N d none 181 813 [(0, .ref (base + 121)), (1, .int (a1)), (2, .int (a2)), (3, .int (a3)), (4, .int (l4i)), (5, .int (l5i)), (6, .int (l6i)), (7, .int (l7i)), (8, .int (l8i)), (9, .int (l9i)), (10, .int (l10i)), (11, .int (l11i)), (12, .long (l12l)), (14, .long (l14l)), (16, .int (l16i)), (17, .long (l17l)), (19, .long (l19l)), (21, .int (l21i)), (22, .long (l22l))] [] (n, sl, SH, FI, FL, FR) (RX12_exec_813 K18 a1 a2 a3 l4i l6i l7i l8i l9i l10i l11i l12l l14l l16i l17l l19l n sl SH FI FL FR) := by
  unfold RX12_exec_813
  refine pw_iload (aX12_exec 408 rfl) rfl ?_
  refine pw_sipush (v := (145 : Int32)) (aX12_exec 409 rfl) rfl ?_
  refine pw_icne (tgt := 898) (aX12_exec 410 rfl) (by decide) (fun b0 => ?_) (fun b0 => ?_)
  · skip
    refine pw_aloadn (aX12_exec 411 rfl) rfl ?_
    refine pw_iload (aX12_exec 412 rfl) rfl ?_
    refine pw_putri (aX12_exec 413 rfl) uf_RX12_277 (fun _ _ _ => rfl) (fun t2 => ?_)
    refine pw_aloadn (aX12_exec 414 rfl) rfl ?_
    refine pw_iload (aX12_exec 415 rfl) rfl ?_
    refine pw_putri (aX12_exec 416 rfl) uf_RX12_280 (fun _ _ _ => rfl) (fun t3 => ?_)
    refine pw_aloadn (aX12_exec 417 rfl) rfl ?_
    refine pw_iload (aX12_exec 418 rfl) rfl ?_
    refine pw_putri (aX12_exec 419 rfl) uf_RX12_283 (fun _ _ _ => rfl) (fun t4 => ?_)
    refine pw_aloadn (aX12_exec 420 rfl) rfl ?_
    refine pw_aloadn (aX12_exec 421 rfl) rfl ?_
    refine pw_getr (v := .int (FI 121 33)) (aX12_exec 422 rfl) uf_RX12_267 un_RX12_267 rfl ?_
    refine pw_putri (aX12_exec 423 rfl) uf_RX12_286 (fun _ _ _ => rfl) (fun t5 => ?_)
    refine pw_aloadn (aX12_exec 424 rfl) rfl ?_
    refine pw_lload (aX12_exec 425 rfl) rfl ?_
    refine pw_putrl (aX12_exec 426 rfl) uf_RX12_289 (fun _ _ _ => rfl) (fun t6 => ?_)
    refine pw_aloadn (aX12_exec 427 rfl) rfl ?_
    refine pw_iload (aX12_exec 428 rfl) rfl ?_
    refine pw_putri (aX12_exec 429 rfl) uf_RX12_267 (fun _ _ _ => rfl) (fun t7 => ?_)
    refine pw_iconst (v := (1 : Int32)) (aX12_exec 430 rfl) rfl ?_
    refine pw_istore (L2 := [(4, .int ((1 : Int32))), (0, .ref (base + 121)), (1, .int (a1)), (2, .int (a2)), (3, .int (a3)), (5, .int (l5i)), (6, .int (l6i)), (7, .int (l7i)), (8, .int (l8i)), (9, .int (l9i)), (10, .int (l10i)), (11, .int (l11i)), (12, .long (l12l)), (14, .long (l14l)), (16, .int (l16i)), (17, .long (l17l)), (19, .long (l19l)), (21, .int (l21i)), (22, .long (l22l))]) (aX12_exec 431 rfl) rfl ?_
    refine pw_aloadn (aX12_exec 432 rfl) rfl ?_
    refine pw_iconst (v := (1 : Int32)) (aX12_exec 433 rfl) rfl ?_
    refine pw_callV (Bs := [.int ((1 : Int32))]) (rest := []) (aX12_exec 434 rfl) um_RX12_261 ujX12_clears wc_RX12_261.2.2.2.2 (by decide) (by decide) rfl rfl (fun d => rX12_clears hkb ((1 : Int32)) n sl SH (h_up (h_up (h_up (h_up (h_up FI 121 40 (l11i)) 121 41 (l6i)) 121 42 (l7i)) 121 43 (FI 121 33)) 121 33 (l9i)) (h_up FL 121 44 (l12l)) FR hok) (fun v7 n7 sl7 SH7 FI7 FL7 FR7 hok7 _ => ?_)
    show pw _ _ _ _ _ _ _ 867 _ [] _ _
    refine pw_sipush (v := (600 : Int32)) (aX12_exec 435 rfl) rfl ?_
    refine pw_aloadn (aX12_exec 436 rfl) rfl ?_
    refine pw_getr (v := .int (FI7 121 5)) (aX12_exec 437 rfl) uf_RX12_23 un_RX12_23 rfl ?_
    refine pw_imul (aX12_exec 438 rfl) ?_
    refine pw_istore (L2 := [(6, .int (((600 : Int32)) * (FI7 121 5))), (4, .int ((1 : Int32))), (0, .ref (base + 121)), (1, .int (a1)), (2, .int (a2)), (3, .int (a3)), (5, .int (l5i)), (7, .int (l7i)), (8, .int (l8i)), (9, .int (l9i)), (10, .int (l10i)), (11, .int (l11i)), (12, .long (l12l)), (14, .long (l14l)), (16, .int (l16i)), (17, .long (l17l)), (19, .long (l19l)), (21, .int (l21i)), (22, .long (l22l))]) (aX12_exec 439 rfl) rfl ?_
    refine pw_iload (aX12_exec 440 rfl) rfl ?_
    refine pw_aloadn (aX12_exec 441 rfl) rfl ?_
    refine pw_getr (v := .ref (base + 125)) (aX12_exec 442 rfl) uf_RX12_20 un_RX12_20 (congrArg (fun r => va_rf (h_rf base r)) (q121_4 (hok7).2.1)) ?_
    refine pw_aloadn (aX12_exec 443 rfl) rfl ?_
    refine pw_getr (v := .int (FI7 121 5)) (aX12_exec 444 rfl) uf_RX12_23 un_RX12_23 rfl ?_
    refine pw_ialdr (c := 125) (ix := (FI7 121 5).toInt.toNat) (aX12_exec 445 rfl) rfl (fun _ => ?_)
    refine pw_iadd (aX12_exec 446 rfl) ?_
    refine pw_istore (L2 := [(7, .int ((((600 : Int32)) * (FI7 121 5)) + (FI7 125 (FI7 121 5).toInt.toNat))), (6, .int (((600 : Int32)) * (FI7 121 5))), (4, .int ((1 : Int32))), (0, .ref (base + 121)), (1, .int (a1)), (2, .int (a2)), (3, .int (a3)), (5, .int (l5i)), (8, .int (l8i)), (9, .int (l9i)), (10, .int (l10i)), (11, .int (l11i)), (12, .long (l12l)), (14, .long (l14l)), (16, .int (l16i)), (17, .long (l17l)), (19, .long (l19l)), (21, .int (l21i)), (22, .long (l22l))]) (aX12_exec 447 rfl) rfl ?_
    refine pw_iload (aX12_exec 448 rfl) rfl ?_
    refine pw_istore (L2 := [(5, .int (((600 : Int32)) * (FI7 121 5))), (7, .int ((((600 : Int32)) * (FI7 121 5)) + (FI7 125 (FI7 121 5).toInt.toNat))), (6, .int (((600 : Int32)) * (FI7 121 5))), (4, .int ((1 : Int32))), (0, .ref (base + 121)), (1, .int (a1)), (2, .int (a2)), (3, .int (a3)), (8, .int (l8i)), (9, .int (l9i)), (10, .int (l10i)), (11, .int (l11i)), (12, .long (l12l)), (14, .long (l14l)), (16, .int (l16i)), (17, .long (l17l)), (19, .long (l19l)), (21, .int (l21i)), (22, .long (l22l))]) (aX12_exec 449 rfl) rfl ?_
    refine pw_goto (tgt := 18) (aX12_exec 450 rfl) (by decide) ?_
    exact pw_Li (L2 := [(0, .ref (base + 121)), (1, .int (a1)), (2, .int (a2)), (3, .int (a3)), (4, .int ((1 : Int32))), (5, .int (((600 : Int32)) * (FI7 121 5))), (6, .int (((600 : Int32)) * (FI7 121 5))), (7, .int ((((600 : Int32)) * (FI7 121 5)) + (FI7 125 (FI7 121 5).toInt.toNat))), (8, .int (l8i)), (9, .int (l9i)), (10, .int (l10i)), (11, .int (l11i)), (12, .long (l12l)), (14, .long (l14l)), (16, .int (l16i)), (17, .long (l17l)), (19, .long (l19l)), (21, .int (l21i)), (22, .long (l22l))]) [5, 7, 6, 4, 0, 1, 2, 3, 8, 9, 10, 11, 12, 13, 14, 15, 16, 17, 18] (hK18 ((1 : Int32)) (((600 : Int32)) * (FI7 121 5)) (((600 : Int32)) * (FI7 121 5)) ((((600 : Int32)) * (FI7 121 5)) + (FI7 125 (FI7 121 5).toInt.toNat)) (l8i) (l9i) (l10i) (l11i) (l12l) (l14l) (l16i) (l17l) (l19l) (l21i) (l22l) n7 sl7 SH7 FI7 FL7 FR7 hok7) ⟨rfl, rfl, rfl, rfl, rfl, rfl, rfl, rfl, rfl, rfl, rfl, rfl, rfl, rfl, rfl, rfl, rfl, rfl, rfl, trivial⟩
  · skip
    refine pw_iload (aX12_exec 451 rfl) rfl ?_
    refine pw_bipush (v := (6 : Int32)) (aX12_exec 452 rfl) rfl ?_
    refine pw_icne (tgt := 917) (aX12_exec 453 rfl) (by decide) (fun b8 => ?_) (fun b8 => ?_)
    · skip
      refine pw_aloadn (aX12_exec 454 rfl) rfl ?_
      refine pw_lload (aX12_exec 455 rfl) rfl ?_
      refine pw_ldc2 (v := (8 : Int64)) (aX12_exec 456 rfl) uk_RX12_315 ?_
      refine pw_cf (pw_callV (Bs := [.long (l17l), .long ((8 : Int64))]) (rest := []) (aX12_exec 457 rfl) um_RX12_327 ujX12_isThere wc_RX12_327.2.2.2.2 (by decide) (by decide) rfl rfl (fun d => rX12_isThere hkb (l17l) ((8 : Int64)) n sl SH FI FL FR hok) (fun v9 n9 sl9 SH9 FI9 FL9 FR9 _ hC => ?_))
      obtain ⟨rfl, hC⟩ := hC; cases hC
      show pw _ _ _ _ _ _ _ 914 _ [.int (fX12_isThere (l17l) ((8 : Int64)) SH FI FL FR)] _ _
      refine pw_ifeq (tgt := 936) (aX12_exec 458 rfl) (by decide) (fun b10 => ?_) (fun b10 => ?_)
      · skip
        refine pw_aloadn (aX12_exec 467 rfl) rfl ?_
        refine pw_iconst (v := (5 : Int32)) (aX12_exec 468 rfl) rfl ?_
        refine pw_iload (aX12_exec 469 rfl) rfl ?_
        refine pw_callV (Bs := [.int ((5 : Int32)), .int (l9i)]) (rest := []) (aX12_exec 470 rfl) um_RX12_270 ujX12_fails wc_RX12_270.2.2.2.2 (by decide) (by decide) rfl rfl (fun d => rX12_fails hkb ((5 : Int32)) (l9i) n sl SH FI FL FR hok) (fun v11 n11 sl11 SH11 FI11 FL11 FR11 hok11 _ => ?_)
        show pw _ _ _ _ _ _ _ 943 _ [.int (v11)] _ _
        exact pw_iret (aX12_exec 471 rfl) hok11
      · skip
        exact pw_Li (L2 := [(0, .ref (base + 121)), (1, .int (a1)), (2, .int (a2)), (3, .int (a3)), (4, .int (l4i)), (5, .int (l5i)), (6, .int (l6i)), (7, .int (l7i)), (8, .int (l8i)), (9, .int (l9i)), (10, .int (l10i)), (11, .int (l11i)), (12, .long (l12l)), (14, .long (l14l)), (16, .int (l16i)), (17, .long (l17l)), (19, .long (l19l)), (21, .int (l21i)), (22, .long (l22l))]) [0, 1, 2, 3, 4, 5, 6, 7, 8, 9, 10, 11, 12, 13, 14, 15, 16, 17, 18] (rX12_exec_917 hkb a1 a2 a3 (l4i) (l6i) (l7i) (l8i) (l9i) (l10i) (l11i) (l12l) (l14l) (l16i) (l17l) (l19l) (l5i) (l21i) (l22l) n sl SH FI FL FR hok  hK18) ⟨rfl, rfl, rfl, rfl, rfl, rfl, rfl, rfl, rfl, rfl, rfl, rfl, rfl, rfl, rfl, rfl, rfl, rfl, rfl, trivial⟩
    · skip
      exact pw_Li (L2 := [(0, .ref (base + 121)), (1, .int (a1)), (2, .int (a2)), (3, .int (a3)), (4, .int (l4i)), (5, .int (l5i)), (6, .int (l6i)), (7, .int (l7i)), (8, .int (l8i)), (9, .int (l9i)), (10, .int (l10i)), (11, .int (l11i)), (12, .long (l12l)), (14, .long (l14l)), (16, .int (l16i)), (17, .long (l17l)), (19, .long (l19l)), (21, .int (l21i)), (22, .long (l22l))]) [0, 1, 2, 3, 4, 5, 6, 7, 8, 9, 10, 11, 12, 13, 14, 15, 16, 17, 18] (rX12_exec_917 hkb a1 a2 a3 (l4i) (l6i) (l7i) (l8i) (l9i) (l10i) (l11i) (l12l) (l14l) (l16i) (l17l) (l19l) (l5i) (l21i) (l22l) n sl SH FI FL FR hok  hK18) ⟨rfl, rfl, rfl, rfl, rfl, rfl, rfl, rfl, rfl, rfl, rfl, rfl, rfl, rfl, rfl, rfl, rfl, rfl, rfl, trivial⟩
set_option maxHeartbeats 4000000 in
set_option maxRecDepth 100000 in
theorem rX12_exec_782 {sk : xK} {base N d : Nat} {K18 : Int32 → Int32 → Int32 → Int32 → Nat → Nat → (Nat → Nat × Nat) → (Nat → Nat → Int32) → (Nat → Nat → Int64) → (Nat → Nat → Option Nat) → Int32 → hS → Prop} (hkb : x_kb sk base) (a1 : Int32) (a2 : Int32) (a3 : Int32) (l4i : Int32) (l6i : Int32) (l7i : Int32) (l8i : Int32) (l9i : Int32) (l10i : Int32) (l11i : Int32) (l12l : Int64) (l14l : Int64) (l16i : Int32) (l17l : Int64) (l19l : Int64) (l5i : Int32) (l21i : Int32) (l22l : Int64) (n sl : Nat) (SH : Nat → Nat × Nat) (FI : Nat → Nat → Int32) (FL : Nat → Nat → Int64) (FR : Nat → Nat → Option Nat) (hok : pk n SH FR)  (hK18 : ∀ (l4i : Int32) (l5i : Int32) (l6i : Int32) (l7i : Int32) (l8i : Int32) (l9i : Int32) (l10i : Int32) (l11i : Int32) (l12l : Int64) (l14l : Int64) (l16i : Int32) (l17l : Int64) (l19l : Int64) (l21i : Int32) (l22l : Int64) (n sl : Nat) (SH : Nat → Nat × Nat) (FI : Nat → Nat → Int32) (FL : Nat → Nat → Int64) (FR : Nat → Nat → Option Nat), pk n SH FR → pw pj_I sk base N d none 181 18 [(0, .ref (base + 121)), (1, .int (a1)), (2, .int (a2)), (3, .int (a3)), (4, .int (l4i)), (5, .int (l5i)), (6, .int (l6i)), (7, .int (l7i)), (8, .int (l8i)), (9, .int (l9i)), (10, .int (l10i)), (11, .int (l11i)), (12, .long (l12l)), (14, .long (l14l)), (16, .int (l16i)), (17, .long (l17l)), (19, .long (l19l)), (21, .int (l21i)), (22, .long (l22l))] [] (n, sl, SH, FI, FL, FR) (K18 l4i l5i l6i l7i n sl SH FI FL FR)) : pw pj_I sk base N d none 181 782 [(0, .ref (base + 121)), (1, .int (a1)), (2, .int (a2)), (3, .int (a3)), (4, .int (l4i)), (5, .int (l5i)), (6, .int (l6i)), (7, .int (l7i)), (8, .int (l8i)), (9, .int (l9i)), (10, .int (l10i)), (11, .int (l11i)), (12, .long (l12l)), (14, .long (l14l)), (16, .int (l16i)), (17, .long (l17l)), (19, .long (l19l)), (21, .int (l21i)), (22, .long (l22l))] [] (n, sl, SH, FI, FL, FR) (RX12_exec_782 K18 a1 a2 a3 l4i l6i l7i l8i l9i l10i l11i l12l l14l l16i l17l l19l n sl SH FI FL FR) := by
  unfold RX12_exec_782
  refine pw_iload (aX12_exec 393 rfl) rfl ?_
  refine pw_sipush (v := (145 : Int32)) (aX12_exec 394 rfl) rfl ?_
  refine pw_icne (tgt := 813) (aX12_exec 395 rfl) (by decide) (fun b0 => ?_) (fun b0 => ?_)
  · skip
    refine pw_iload (aX12_exec 396 rfl) rfl ?_
    refine pw_iconst (v := (1 : Int32)) (aX12_exec 397 rfl) rfl ?_
    refine pw_iceq (tgt := 804) (aX12_exec 398 rfl) (by decide) (fun b1 => ?_) (fun b1 => ?_)
    · skip
      refine pw_aloadn (aX12_exec 403 rfl) rfl ?_
      refine pw_bipush (v := (11 : Int32)) (aX12_exec 404 rfl) rfl ?_
      refine pw_iload (aX12_exec 405 rfl) rfl ?_
      refine pw_callV (Bs := [.int ((11 : Int32)), .int (l9i)]) (rest := []) (aX12_exec 406 rfl) um_RX12_270 ujX12_fails wc_RX12_270.2.2.2.2 (by decide) (by decide) rfl rfl (fun d => rX12_fails hkb ((11 : Int32)) (l9i) n sl SH FI FL FR hok) (fun v2 n2 sl2 SH2 FI2 FL2 FR2 hok2 _ => ?_)
      show pw _ _ _ _ _ _ _ 812 _ [.int (v2)] _ _
      exact pw_iret (aX12_exec 407 rfl) hok2
    · skip
      refine pw_aloadn (aX12_exec 399 rfl) rfl ?_
      refine pw_getr (v := .int (FI 121 5)) (aX12_exec 400 rfl) uf_RX12_23 un_RX12_23 rfl ?_
      refine pw_iconst (v := (-1 : Int32)) (aX12_exec 401 rfl) rfl ?_
      refine pw_icne (tgt := 813) (aX12_exec 402 rfl) (by decide) (fun b3 => ?_) (fun b3 => ?_)
      · skip
        refine pw_aloadn (aX12_exec 403 rfl) rfl ?_
        refine pw_bipush (v := (11 : Int32)) (aX12_exec 404 rfl) rfl ?_
        refine pw_iload (aX12_exec 405 rfl) rfl ?_
        refine pw_callV (Bs := [.int ((11 : Int32)), .int (l9i)]) (rest := []) (aX12_exec 406 rfl) um_RX12_270 ujX12_fails wc_RX12_270.2.2.2.2 (by decide) (by decide) rfl rfl (fun d => rX12_fails hkb ((11 : Int32)) (l9i) n sl SH FI FL FR hok) (fun v4 n4 sl4 SH4 FI4 FL4 FR4 hok4 _ => ?_)
        show pw _ _ _ _ _ _ _ 812 _ [.int (v4)] _ _
        exact pw_iret (aX12_exec 407 rfl) hok4
      · skip
        exact pw_Li (L2 := [(0, .ref (base + 121)), (1, .int (a1)), (2, .int (a2)), (3, .int (a3)), (4, .int (l4i)), (5, .int (l5i)), (6, .int (l6i)), (7, .int (l7i)), (8, .int (l8i)), (9, .int (l9i)), (10, .int (l10i)), (11, .int (l11i)), (12, .long (l12l)), (14, .long (l14l)), (16, .int (l16i)), (17, .long (l17l)), (19, .long (l19l)), (21, .int (l21i)), (22, .long (l22l))]) [0, 1, 2, 3, 4, 5, 6, 7, 8, 9, 10, 11, 12, 13, 14, 15, 16, 17, 18] (rX12_exec_813 hkb a1 a2 a3 (l4i) (l6i) (l7i) (l8i) (l9i) (l10i) (l11i) (l12l) (l14l) (l16i) (l17l) (l19l) (l5i) (l21i) (l22l) n sl SH FI FL FR hok  hK18) ⟨rfl, rfl, rfl, rfl, rfl, rfl, rfl, rfl, rfl, rfl, rfl, rfl, rfl, rfl, rfl, rfl, rfl, rfl, rfl, trivial⟩
  · skip
    exact pw_Li (L2 := [(0, .ref (base + 121)), (1, .int (a1)), (2, .int (a2)), (3, .int (a3)), (4, .int (l4i)), (5, .int (l5i)), (6, .int (l6i)), (7, .int (l7i)), (8, .int (l8i)), (9, .int (l9i)), (10, .int (l10i)), (11, .int (l11i)), (12, .long (l12l)), (14, .long (l14l)), (16, .int (l16i)), (17, .long (l17l)), (19, .long (l19l)), (21, .int (l21i)), (22, .long (l22l))]) [0, 1, 2, 3, 4, 5, 6, 7, 8, 9, 10, 11, 12, 13, 14, 15, 16, 17, 18] (rX12_exec_813 hkb a1 a2 a3 (l4i) (l6i) (l7i) (l8i) (l9i) (l10i) (l11i) (l12l) (l14l) (l16i) (l17l) (l19l) (l5i) (l21i) (l22l) n sl SH FI FL FR hok  hK18) ⟨rfl, rfl, rfl, rfl, rfl, rfl, rfl, rfl, rfl, rfl, rfl, rfl, rfl, rfl, rfl, rfl, rfl, rfl, rfl, trivial⟩
set_option maxHeartbeats 4000000 in
set_option maxRecDepth 100000 in
theorem rX12_exec_766 {sk : xK} {base N d : Nat} {K18 : Int32 → Int32 → Int32 → Int32 → Nat → Nat → (Nat → Nat × Nat) → (Nat → Nat → Int32) → (Nat → Nat → Int64) → (Nat → Nat → Option Nat) → Int32 → hS → Prop} (hkb : x_kb sk base) (a1 : Int32) (a2 : Int32) (a3 : Int32) (l4i : Int32) (l6i : Int32) (l7i : Int32) (l8i : Int32) (l9i : Int32) (l10i : Int32) (l11i : Int32) (l12l : Int64) (l14l : Int64) (l16i : Int32) (l17l : Int64) (l19l : Int64) (l5i : Int32) (l21i : Int32) (l22l : Int64) (n sl : Nat) (SH : Nat → Nat × Nat) (FI : Nat → Nat → Int32) (FL : Nat → Nat → Int64) (FR : Nat → Nat → Option Nat) (hok : pk n SH FR)  (hK18 : ∀ (l4i : Int32) (l5i : Int32) (l6i : Int32) (l7i : Int32) (l8i : Int32) (l9i : Int32) (l10i : Int32) (l11i : Int32) (l12l : Int64) (l14l : Int64) (l16i : Int32) (l17l : Int64) (l19l : Int64) (l21i : Int32) (l22l : Int64) (n sl : Nat) (SH : Nat → Nat × Nat) (FI : Nat → Nat → Int32) (FL : Nat → Nat → Int64) (FR : Nat → Nat → Option Nat), pk n SH FR → pw pj_I sk base N d none 181 18 [(0, .ref (base + 121)), (1, .int (a1)), (2, .int (a2)), (3, .int (a3)), (4, .int (l4i)), (5, .int (l5i)), (6, .int (l6i)), (7, .int (l7i)), (8, .int (l8i)), (9, .int (l9i)), (10, .int (l10i)), (11, .int (l11i)), (12, .long (l12l)), (14, .long (l14l)), (16, .int (l16i)), (17, .long (l17l)), (19, .long (l19l)), (21, .int (l21i)), (22, .long (l22l))] [] (n, sl, SH, FI, FL, FR) (K18 l4i l5i l6i l7i n sl SH FI FL FR)) : pw pj_I sk base N d none 181 766 [(0, .ref (base + 121)), (1, .int (a1)), (2, .int (a2)), (3, .int (a3)), (4, .int (l4i)), (5, .int (l5i)), (6, .int (l6i)), (7, .int (l7i)), (8, .int (l8i)), (9, .int (l9i)), (10, .int (l10i)), (11, .int (l11i)), (12, .long (l12l)), (14, .long (l14l)), (16, .int (l16i)), (17, .long (l17l)), (19, .long (l19l)), (21, .int (l21i)), (22, .long (l22l))] [] (n, sl, SH, FI, FL, FR) (RX12_exec_766 K18 a1 a2 a3 l4i l6i l7i l8i l9i l10i l11i l12l l14l l16i l17l l19l n sl SH FI FL FR) := by
  unfold RX12_exec_766
  refine pw_iload (aX12_exec 386 rfl) rfl ?_
  refine pw_sipush (v := (156 : Int32)) (aX12_exec 387 rfl) rfl ?_
  refine pw_icne (tgt := 782) (aX12_exec 388 rfl) (by decide) (fun b0 => ?_) (fun b0 => ?_)
  · skip
    refine pw_aloadn (aX12_exec 389 rfl) rfl ?_
    refine pw_getr (v := .int (FI 121 6)) (aX12_exec 390 rfl) uf_RX12_27 un_RX12_27 rfl ?_
    refine pw_iconst (v := (-1 : Int32)) (aX12_exec 391 rfl) rfl ?_
    refine pw_iceq (tgt := 804) (aX12_exec 392 rfl) (by decide) (fun b1 => ?_) (fun b1 => ?_)
    · skip
      refine pw_aloadn (aX12_exec 403 rfl) rfl ?_
      refine pw_bipush (v := (11 : Int32)) (aX12_exec 404 rfl) rfl ?_
      refine pw_iload (aX12_exec 405 rfl) rfl ?_
      refine pw_callV (Bs := [.int ((11 : Int32)), .int (l9i)]) (rest := []) (aX12_exec 406 rfl) um_RX12_270 ujX12_fails wc_RX12_270.2.2.2.2 (by decide) (by decide) rfl rfl (fun d => rX12_fails hkb ((11 : Int32)) (l9i) n sl SH FI FL FR hok) (fun v2 n2 sl2 SH2 FI2 FL2 FR2 hok2 _ => ?_)
      show pw _ _ _ _ _ _ _ 812 _ [.int (v2)] _ _
      exact pw_iret (aX12_exec 407 rfl) hok2
    · skip
      exact pw_Li (L2 := [(0, .ref (base + 121)), (1, .int (a1)), (2, .int (a2)), (3, .int (a3)), (4, .int (l4i)), (5, .int (l5i)), (6, .int (l6i)), (7, .int (l7i)), (8, .int (l8i)), (9, .int (l9i)), (10, .int (l10i)), (11, .int (l11i)), (12, .long (l12l)), (14, .long (l14l)), (16, .int (l16i)), (17, .long (l17l)), (19, .long (l19l)), (21, .int (l21i)), (22, .long (l22l))]) [0, 1, 2, 3, 4, 5, 6, 7, 8, 9, 10, 11, 12, 13, 14, 15, 16, 17, 18] (rX12_exec_782 hkb a1 a2 a3 (l4i) (l6i) (l7i) (l8i) (l9i) (l10i) (l11i) (l12l) (l14l) (l16i) (l17l) (l19l) (l5i) (l21i) (l22l) n sl SH FI FL FR hok  hK18) ⟨rfl, rfl, rfl, rfl, rfl, rfl, rfl, rfl, rfl, rfl, rfl, rfl, rfl, rfl, rfl, rfl, rfl, rfl, rfl, trivial⟩
  · skip
    exact pw_Li (L2 := [(0, .ref (base + 121)), (1, .int (a1)), (2, .int (a2)), (3, .int (a3)), (4, .int (l4i)), (5, .int (l5i)), (6, .int (l6i)), (7, .int (l7i)), (8, .int (l8i)), (9, .int (l9i)), (10, .int (l10i)), (11, .int (l11i)), (12, .long (l12l)), (14, .long (l14l)), (16, .int (l16i)), (17, .long (l17l)), (19, .long (l19l)), (21, .int (l21i)), (22, .long (l22l))]) [0, 1, 2, 3, 4, 5, 6, 7, 8, 9, 10, 11, 12, 13, 14, 15, 16, 17, 18] (rX12_exec_782 hkb a1 a2 a3 (l4i) (l6i) (l7i) (l8i) (l9i) (l10i) (l11i) (l12l) (l14l) (l16i) (l17l) (l19l) (l5i) (l21i) (l22l) n sl SH FI FL FR hok  hK18) ⟨rfl, rfl, rfl, rfl, rfl, rfl, rfl, rfl, rfl, rfl, rfl, rfl, rfl, rfl, rfl, rfl, rfl, rfl, rfl, trivial⟩
set_option maxHeartbeats 4000000 in
set_option maxRecDepth 100000 in
theorem rX12_exec_751 {sk : xK} {base N d : Nat} {K18 : Int32 → Int32 → Int32 → Int32 → Nat → Nat → (Nat → Nat × Nat) → (Nat → Nat → Int32) → (Nat → Nat → Int64) → (Nat → Nat → Option Nat) → Int32 → hS → Prop} (hkb : x_kb sk base) (a1 : Int32) (a2 : Int32) (a3 : Int32) (l4i : Int32) (l6i : Int32) (l7i : Int32) (l8i : Int32) (l9i : Int32) (l10i : Int32) (l11i : Int32) (l12l : Int64) (l14l : Int64) (l16i : Int32) (l17l : Int64) (l19l : Int64) (l5i : Int32) (l21i : Int32) (l22l : Int64) (n sl : Nat) (SH : Nat → Nat × Nat) (FI : Nat → Nat → Int32) (FL : Nat → Nat → Int64) (FR : Nat → Nat → Option Nat) (hok : pk n SH FR)  (hK18 : ∀ (l4i : Int32) (l5i : Int32) (l6i : Int32) (l7i : Int32) (l8i : Int32) (l9i : Int32) (l10i : Int32) (l11i : Int32) (l12l : Int64) (l14l : Int64) (l16i : Int32) (l17l : Int64) (l19l : Int64) (l21i : Int32) (l22l : Int64) (n sl : Nat) (SH : Nat → Nat × Nat) (FI : Nat → Nat → Int32) (FL : Nat → Nat → Int64) (FR : Nat → Nat → Option Nat), pk n SH FR → pw pj_I sk base N d none 181 18 [(0, .ref (base + 121)), (1, .int (a1)), (2, .int (a2)), (3, .int (a3)), (4, .int (l4i)), (5, .int (l5i)), (6, .int (l6i)), (7, .int (l7i)), (8, .int (l8i)), (9, .int (l9i)), (10, .int (l10i)), (11, .int (l11i)), (12, .long (l12l)), (14, .long (l14l)), (16, .int (l16i)), (17, .long (l17l)), (19, .long (l19l)), (21, .int (l21i)), (22, .long (l22l))] [] (n, sl, SH, FI, FL, FR) (K18 l4i l5i l6i l7i n sl SH FI FL FR)) : pw pj_I sk base N d none 181 751 [(0, .ref (base + 121)), (1, .int (a1)), (2, .int (a2)), (3, .int (a3)), (4, .int (l4i)), (5, .int (l5i)), (6, .int (l6i)), (7, .int (l7i)), (8, .int (l8i)), (9, .int (l9i)), (10, .int (l10i)), (11, .int (l11i)), (12, .long (l12l)), (14, .long (l14l)), (16, .int (l16i)), (17, .long (l17l)), (19, .long (l19l)), (21, .int (l21i)), (22, .long (l22l))] [] (n, sl, SH, FI, FL, FR) (RX12_exec_751 K18 a1 a2 a3 l4i l6i l7i l8i l9i l10i l11i l12l l14l l16i l17l l19l n sl SH FI FL FR) := by
  unfold RX12_exec_751
  refine pw_iload (aX12_exec 380 rfl) rfl ?_
  refine pw_sipush (v := (155 : Int32)) (aX12_exec 381 rfl) rfl ?_
  refine pw_icne (tgt := 766) (aX12_exec 382 rfl) (by decide) (fun b0 => ?_) (fun b0 => ?_)
  · skip
    refine pw_aloadn (aX12_exec 383 rfl) rfl ?_
    refine pw_getr (v := .int (FI 121 11)) (aX12_exec 384 rfl) uf_RX12_215 un_RX12_215 rfl ?_
    refine pw_ifeq (tgt := 804) (aX12_exec 385 rfl) (by decide) (fun b1 => ?_) (fun b1 => ?_)
    · skip
      refine pw_aloadn (aX12_exec 403 rfl) rfl ?_
      refine pw_bipush (v := (11 : Int32)) (aX12_exec 404 rfl) rfl ?_
      refine pw_iload (aX12_exec 405 rfl) rfl ?_
      refine pw_callV (Bs := [.int ((11 : Int32)), .int (l9i)]) (rest := []) (aX12_exec 406 rfl) um_RX12_270 ujX12_fails wc_RX12_270.2.2.2.2 (by decide) (by decide) rfl rfl (fun d => rX12_fails hkb ((11 : Int32)) (l9i) n sl SH FI FL FR hok) (fun v2 n2 sl2 SH2 FI2 FL2 FR2 hok2 _ => ?_)
      show pw _ _ _ _ _ _ _ 812 _ [.int (v2)] _ _
      exact pw_iret (aX12_exec 407 rfl) hok2
    · skip
      exact pw_Li (L2 := [(0, .ref (base + 121)), (1, .int (a1)), (2, .int (a2)), (3, .int (a3)), (4, .int (l4i)), (5, .int (l5i)), (6, .int (l6i)), (7, .int (l7i)), (8, .int (l8i)), (9, .int (l9i)), (10, .int (l10i)), (11, .int (l11i)), (12, .long (l12l)), (14, .long (l14l)), (16, .int (l16i)), (17, .long (l17l)), (19, .long (l19l)), (21, .int (l21i)), (22, .long (l22l))]) [0, 1, 2, 3, 4, 5, 6, 7, 8, 9, 10, 11, 12, 13, 14, 15, 16, 17, 18] (rX12_exec_766 hkb a1 a2 a3 (l4i) (l6i) (l7i) (l8i) (l9i) (l10i) (l11i) (l12l) (l14l) (l16i) (l17l) (l19l) (l5i) (l21i) (l22l) n sl SH FI FL FR hok  hK18) ⟨rfl, rfl, rfl, rfl, rfl, rfl, rfl, rfl, rfl, rfl, rfl, rfl, rfl, rfl, rfl, rfl, rfl, rfl, rfl, trivial⟩
  · skip
    exact pw_Li (L2 := [(0, .ref (base + 121)), (1, .int (a1)), (2, .int (a2)), (3, .int (a3)), (4, .int (l4i)), (5, .int (l5i)), (6, .int (l6i)), (7, .int (l7i)), (8, .int (l8i)), (9, .int (l9i)), (10, .int (l10i)), (11, .int (l11i)), (12, .long (l12l)), (14, .long (l14l)), (16, .int (l16i)), (17, .long (l17l)), (19, .long (l19l)), (21, .int (l21i)), (22, .long (l22l))]) [0, 1, 2, 3, 4, 5, 6, 7, 8, 9, 10, 11, 12, 13, 14, 15, 16, 17, 18] (rX12_exec_766 hkb a1 a2 a3 (l4i) (l6i) (l7i) (l8i) (l9i) (l10i) (l11i) (l12l) (l14l) (l16i) (l17l) (l19l) (l5i) (l21i) (l22l) n sl SH FI FL FR hok  hK18) ⟨rfl, rfl, rfl, rfl, rfl, rfl, rfl, rfl, rfl, rfl, rfl, rfl, rfl, rfl, rfl, rfl, rfl, rfl, rfl, trivial⟩
set_option maxHeartbeats 4000000 in
set_option maxRecDepth 100000 in
theorem rX12_exec_736 {sk : xK} {base N d : Nat} {K18 : Int32 → Int32 → Int32 → Int32 → Nat → Nat → (Nat → Nat × Nat) → (Nat → Nat → Int32) → (Nat → Nat → Int64) → (Nat → Nat → Option Nat) → Int32 → hS → Prop} (hkb : x_kb sk base) (a1 : Int32) (a2 : Int32) (a3 : Int32) (l4i : Int32) (l6i : Int32) (l7i : Int32) (l8i : Int32) (l9i : Int32) (l10i : Int32) (l11i : Int32) (l12l : Int64) (l14l : Int64) (l16i : Int32) (l17l : Int64) (l19l : Int64) (l5i : Int32) (l21i : Int32) (l22l : Int64) (n sl : Nat) (SH : Nat → Nat × Nat) (FI : Nat → Nat → Int32) (FL : Nat → Nat → Int64) (FR : Nat → Nat → Option Nat) (hok : pk n SH FR)  (hK18 : ∀ (l4i : Int32) (l5i : Int32) (l6i : Int32) (l7i : Int32) (l8i : Int32) (l9i : Int32) (l10i : Int32) (l11i : Int32) (l12l : Int64) (l14l : Int64) (l16i : Int32) (l17l : Int64) (l19l : Int64) (l21i : Int32) (l22l : Int64) (n sl : Nat) (SH : Nat → Nat × Nat) (FI : Nat → Nat → Int32) (FL : Nat → Nat → Int64) (FR : Nat → Nat → Option Nat), pk n SH FR → pw pj_I sk base N d none 181 18 [(0, .ref (base + 121)), (1, .int (a1)), (2, .int (a2)), (3, .int (a3)), (4, .int (l4i)), (5, .int (l5i)), (6, .int (l6i)), (7, .int (l7i)), (8, .int (l8i)), (9, .int (l9i)), (10, .int (l10i)), (11, .int (l11i)), (12, .long (l12l)), (14, .long (l14l)), (16, .int (l16i)), (17, .long (l17l)), (19, .long (l19l)), (21, .int (l21i)), (22, .long (l22l))] [] (n, sl, SH, FI, FL, FR) (K18 l4i l5i l6i l7i n sl SH FI FL FR)) : pw pj_I sk base N d none 181 736 [(0, .ref (base + 121)), (1, .int (a1)), (2, .int (a2)), (3, .int (a3)), (4, .int (l4i)), (5, .int (l5i)), (6, .int (l6i)), (7, .int (l7i)), (8, .int (l8i)), (9, .int (l9i)), (10, .int (l10i)), (11, .int (l11i)), (12, .long (l12l)), (14, .long (l14l)), (16, .int (l16i)), (17, .long (l17l)), (19, .long (l19l)), (21, .int (l21i)), (22, .long (l22l))] [] (n, sl, SH, FI, FL, FR) (RX12_exec_736 K18 a1 a2 a3 l4i l6i l7i l8i l9i l10i l11i l12l l14l l16i l17l l19l n sl SH FI FL FR) := by
  unfold RX12_exec_736
  refine pw_iload (aX12_exec 374 rfl) rfl ?_
  refine pw_sipush (v := (151 : Int32)) (aX12_exec 375 rfl) rfl ?_
  refine pw_icne (tgt := 751) (aX12_exec 376 rfl) (by decide) (fun b0 => ?_) (fun b0 => ?_)
  · skip
    refine pw_aloadn (aX12_exec 377 rfl) rfl ?_
    refine pw_getr (v := .int (FI 121 10)) (aX12_exec 378 rfl) uf_RX12_208 un_RX12_208 rfl ?_
    refine pw_ifeq (tgt := 804) (aX12_exec 379 rfl) (by decide) (fun b1 => ?_) (fun b1 => ?_)
    · skip
      refine pw_aloadn (aX12_exec 403 rfl) rfl ?_
      refine pw_bipush (v := (11 : Int32)) (aX12_exec 404 rfl) rfl ?_
      refine pw_iload (aX12_exec 405 rfl) rfl ?_
      refine pw_callV (Bs := [.int ((11 : Int32)), .int (l9i)]) (rest := []) (aX12_exec 406 rfl) um_RX12_270 ujX12_fails wc_RX12_270.2.2.2.2 (by decide) (by decide) rfl rfl (fun d => rX12_fails hkb ((11 : Int32)) (l9i) n sl SH FI FL FR hok) (fun v2 n2 sl2 SH2 FI2 FL2 FR2 hok2 _ => ?_)
      show pw _ _ _ _ _ _ _ 812 _ [.int (v2)] _ _
      exact pw_iret (aX12_exec 407 rfl) hok2
    · skip
      exact pw_Li (L2 := [(0, .ref (base + 121)), (1, .int (a1)), (2, .int (a2)), (3, .int (a3)), (4, .int (l4i)), (5, .int (l5i)), (6, .int (l6i)), (7, .int (l7i)), (8, .int (l8i)), (9, .int (l9i)), (10, .int (l10i)), (11, .int (l11i)), (12, .long (l12l)), (14, .long (l14l)), (16, .int (l16i)), (17, .long (l17l)), (19, .long (l19l)), (21, .int (l21i)), (22, .long (l22l))]) [0, 1, 2, 3, 4, 5, 6, 7, 8, 9, 10, 11, 12, 13, 14, 15, 16, 17, 18] (rX12_exec_751 hkb a1 a2 a3 (l4i) (l6i) (l7i) (l8i) (l9i) (l10i) (l11i) (l12l) (l14l) (l16i) (l17l) (l19l) (l5i) (l21i) (l22l) n sl SH FI FL FR hok  hK18) ⟨rfl, rfl, rfl, rfl, rfl, rfl, rfl, rfl, rfl, rfl, rfl, rfl, rfl, rfl, rfl, rfl, rfl, rfl, rfl, trivial⟩
  · skip
    exact pw_Li (L2 := [(0, .ref (base + 121)), (1, .int (a1)), (2, .int (a2)), (3, .int (a3)), (4, .int (l4i)), (5, .int (l5i)), (6, .int (l6i)), (7, .int (l7i)), (8, .int (l8i)), (9, .int (l9i)), (10, .int (l10i)), (11, .int (l11i)), (12, .long (l12l)), (14, .long (l14l)), (16, .int (l16i)), (17, .long (l17l)), (19, .long (l19l)), (21, .int (l21i)), (22, .long (l22l))]) [0, 1, 2, 3, 4, 5, 6, 7, 8, 9, 10, 11, 12, 13, 14, 15, 16, 17, 18] (rX12_exec_751 hkb a1 a2 a3 (l4i) (l6i) (l7i) (l8i) (l9i) (l10i) (l11i) (l12l) (l14l) (l16i) (l17l) (l19l) (l5i) (l21i) (l22l) n sl SH FI FL FR hok  hK18) ⟨rfl, rfl, rfl, rfl, rfl, rfl, rfl, rfl, rfl, rfl, rfl, rfl, rfl, rfl, rfl, rfl, rfl, rfl, rfl, trivial⟩
set_option maxHeartbeats 4000000 in
set_option maxRecDepth 100000 in
theorem rX12_exec_709 {sk : xK} {base N d : Nat} {K18 : Int32 → Int32 → Int32 → Int32 → Nat → Nat → (Nat → Nat × Nat) → (Nat → Nat → Int32) → (Nat → Nat → Int64) → (Nat → Nat → Option Nat) → Int32 → hS → Prop} (hkb : x_kb sk base) (a1 : Int32) (a2 : Int32) (a3 : Int32) (l4i : Int32) (l6i : Int32) (l7i : Int32) (l8i : Int32) (l9i : Int32) (l10i : Int32) (l11i : Int32) (l12l : Int64) (l14l : Int64) (l16i : Int32) (l17l : Int64) (l19l : Int64) (l5i : Int32) (l21i : Int32) (l22l : Int64) (n sl : Nat) (SH : Nat → Nat × Nat) (FI : Nat → Nat → Int32) (FL : Nat → Nat → Int64) (FR : Nat → Nat → Option Nat) (hok : pk n SH FR)  (hK18 : ∀ (l4i : Int32) (l5i : Int32) (l6i : Int32) (l7i : Int32) (l8i : Int32) (l9i : Int32) (l10i : Int32) (l11i : Int32) (l12l : Int64) (l14l : Int64) (l16i : Int32) (l17l : Int64) (l19l : Int64) (l21i : Int32) (l22l : Int64) (n sl : Nat) (SH : Nat → Nat × Nat) (FI : Nat → Nat → Int32) (FL : Nat → Nat → Int64) (FR : Nat → Nat → Option Nat), pk n SH FR → pw pj_I sk base N d none 181 18 [(0, .ref (base + 121)), (1, .int (a1)), (2, .int (a2)), (3, .int (a3)), (4, .int (l4i)), (5, .int (l5i)), (6, .int (l6i)), (7, .int (l7i)), (8, .int (l8i)), (9, .int (l9i)), (10, .int (l10i)), (11, .int (l11i)), (12, .long (l12l)), (14, .long (l14l)), (16, .int (l16i)), (17, .long (l17l)), (19, .long (l19l)), (21, .int (l21i)), (22, .long (l22l))] [] (n, sl, SH, FI, FL, FR) (K18 l4i l5i l6i l7i n sl SH FI FL FR)) : pw pj_I sk base N d none 181 709 [(0, .ref (base + 121)), (1, .int (a1)), (2, .int (a2)), (3, .int (a3)), (4, .int (l4i)), (5, .int (l5i)), (6, .int (l6i)), (7, .int (l7i)), (8, .int (l8i)), (9, .int (l9i)), (10, .int (l10i)), (11, .int (l11i)), (12, .long (l12l)), (14, .long (l14l)), (16, .int (l16i)), (17, .long (l17l)), (19, .long (l19l)), (21, .int (l21i)), (22, .long (l22l))] [] (n, sl, SH, FI, FL, FR) (RX12_exec_709 K18 a1 a2 a3 l4i l6i l7i l8i l9i l10i l11i l12l l14l l16i l17l l19l n sl SH FI FL FR) := by
  unfold RX12_exec_709
  refine pw_lload (aX12_exec 361 rfl) rfl ?_
  refine pw_ldc2 (v := (15 : Int64)) (aX12_exec 362 rfl) uk_RX12_325 ?_
  refine pw_lcgt (tgt := 727) (aX12_exec 363 rfl) (aX12_exec 364 rfl) (by decide) (fun b0 => ?_) (fun b0 => ?_)
  · skip
    refine pw_aloadn (aX12_exec 369 rfl) rfl ?_
    refine pw_bipush (v := (8 : Int32)) (aX12_exec 370 rfl) rfl ?_
    refine pw_iload (aX12_exec 371 rfl) rfl ?_
    refine pw_callV (Bs := [.int ((8 : Int32)), .int (l9i)]) (rest := []) (aX12_exec 372 rfl) um_RX12_270 ujX12_fails wc_RX12_270.2.2.2.2 (by decide) (by decide) rfl rfl (fun d => rX12_fails hkb ((8 : Int32)) (l9i) n sl SH FI FL FR hok) (fun v1 n1 sl1 SH1 FI1 FL1 FR1 hok1 _ => ?_)
    show pw _ _ _ _ _ _ _ 735 _ [.int (v1)] _ _
    exact pw_iret (aX12_exec 373 rfl) hok1
  · skip
    refine pw_aloadn (aX12_exec 365 rfl) rfl ?_
    refine pw_getr (v := .int (FI 121 29)) (aX12_exec 366 rfl) uf_RX12_264 un_RX12_264 rfl ?_
    refine pw_bipush (v := (8 : Int32)) (aX12_exec 367 rfl) rfl ?_
    refine pw_icne (tgt := 736) (aX12_exec 368 rfl) (by decide) (fun b2 => ?_) (fun b2 => ?_)
    · skip
      refine pw_aloadn (aX12_exec 369 rfl) rfl ?_
      refine pw_bipush (v := (8 : Int32)) (aX12_exec 370 rfl) rfl ?_
      refine pw_iload (aX12_exec 371 rfl) rfl ?_
      refine pw_callV (Bs := [.int ((8 : Int32)), .int (l9i)]) (rest := []) (aX12_exec 372 rfl) um_RX12_270 ujX12_fails wc_RX12_270.2.2.2.2 (by decide) (by decide) rfl rfl (fun d => rX12_fails hkb ((8 : Int32)) (l9i) n sl SH FI FL FR hok) (fun v3 n3 sl3 SH3 FI3 FL3 FR3 hok3 _ => ?_)
      show pw _ _ _ _ _ _ _ 735 _ [.int (v3)] _ _
      exact pw_iret (aX12_exec 373 rfl) hok3
    · skip
      exact pw_Li (L2 := [(0, .ref (base + 121)), (1, .int (a1)), (2, .int (a2)), (3, .int (a3)), (4, .int (l4i)), (5, .int (l5i)), (6, .int (l6i)), (7, .int (l7i)), (8, .int (l8i)), (9, .int (l9i)), (10, .int (l10i)), (11, .int (l11i)), (12, .long (l12l)), (14, .long (l14l)), (16, .int (l16i)), (17, .long (l17l)), (19, .long (l19l)), (21, .int (l21i)), (22, .long (l22l))]) [0, 1, 2, 3, 4, 5, 6, 7, 8, 9, 10, 11, 12, 13, 14, 15, 16, 17, 18] (rX12_exec_736 hkb a1 a2 a3 (l4i) (l6i) (l7i) (l8i) (l9i) (l10i) (l11i) (l12l) (l14l) (l16i) (l17l) (l19l) (l5i) (l21i) (l22l) n sl SH FI FL FR hok  hK18) ⟨rfl, rfl, rfl, rfl, rfl, rfl, rfl, rfl, rfl, rfl, rfl, rfl, rfl, rfl, rfl, rfl, rfl, rfl, rfl, trivial⟩
set_option maxHeartbeats 4000000 in
set_option maxRecDepth 100000 in
theorem rX12_exec_691 {sk : xK} {base N d : Nat} {K18 : Int32 → Int32 → Int32 → Int32 → Nat → Nat → (Nat → Nat × Nat) → (Nat → Nat → Int32) → (Nat → Nat → Int64) → (Nat → Nat → Option Nat) → Int32 → hS → Prop} (hkb : x_kb sk base) (a1 : Int32) (a2 : Int32) (a3 : Int32) (l4i : Int32) (l6i : Int32) (l7i : Int32) (l8i : Int32) (l9i : Int32) (l10i : Int32) (l11i : Int32) (l12l : Int64) (l14l : Int64) (l16i : Int32) (l17l : Int64) (s0l : Int64) (l5i : Int32) (l19l : Int64) (l21i : Int32) (l22l : Int64) (n sl : Nat) (SH : Nat → Nat × Nat) (FI : Nat → Nat → Int32) (FL : Nat → Nat → Int64) (FR : Nat → Nat → Option Nat) (hok : pk n SH FR)  (hK18 : ∀ (l4i : Int32) (l5i : Int32) (l6i : Int32) (l7i : Int32) (l8i : Int32) (l9i : Int32) (l10i : Int32) (l11i : Int32) (l12l : Int64) (l14l : Int64) (l16i : Int32) (l17l : Int64) (l19l : Int64) (l21i : Int32) (l22l : Int64) (n sl : Nat) (SH : Nat → Nat × Nat) (FI : Nat → Nat → Int32) (FL : Nat → Nat → Int64) (FR : Nat → Nat → Option Nat), pk n SH FR → pw pj_I sk base N d none 181 18 [(0, .ref (base + 121)), (1, .int (a1)), (2, .int (a2)), (3, .int (a3)), (4, .int (l4i)), (5, .int (l5i)), (6, .int (l6i)), (7, .int (l7i)), (8, .int (l8i)), (9, .int (l9i)), (10, .int (l10i)), (11, .int (l11i)), (12, .long (l12l)), (14, .long (l14l)), (16, .int (l16i)), (17, .long (l17l)), (19, .long (l19l)), (21, .int (l21i)), (22, .long (l22l))] [] (n, sl, SH, FI, FL, FR) (K18 l4i l5i l6i l7i n sl SH FI FL FR)) : pw pj_I sk base N d none 181 691 [(0, .ref (base + 121)), (1, .int (a1)), (2, .int (a2)), (3, .int (a3)), (4, .int (l4i)), (5, .int (l5i)), (6, .int (l6i)), (7, .int (l7i)), (8, .int (l8i)), (9, .int (l9i)), (10, .int (l10i)), (11, .int (l11i)), (12, .long (l12l)), (14, .long (l14l)), (16, .int (l16i)), (17, .long (l17l)), (19, .long (l19l)), (21, .int (l21i)), (22, .long (l22l))] [.long (s0l)] (n, sl, SH, FI, FL, FR) (RX12_exec_691 K18 a1 a2 a3 l4i l6i l7i l8i l9i l10i l11i l12l l14l l16i l17l s0l n sl SH FI FL FR) := by
  unfold RX12_exec_691
  refine pw_lstore (L2 := [(19, .long (s0l)), (0, .ref (base + 121)), (1, .int (a1)), (2, .int (a2)), (3, .int (a3)), (4, .int (l4i)), (5, .int (l5i)), (6, .int (l6i)), (7, .int (l7i)), (8, .int (l8i)), (9, .int (l9i)), (10, .int (l10i)), (11, .int (l11i)), (12, .long (l12l)), (14, .long (l14l)), (16, .int (l16i)), (17, .long (l17l)), (21, .int (l21i)), (22, .long (l22l))]) (aX12_exec 354 rfl) rfl ?_
  refine pw_iload (aX12_exec 355 rfl) rfl ?_
  refine pw_sipush (v := (152 : Int32)) (aX12_exec 356 rfl) rfl ?_
  refine pw_iceq (tgt := 709) (aX12_exec 357 rfl) (by decide) (fun b0 => ?_) (fun b0 => ?_)
  · skip
    exact pw_Li (L2 := [(0, .ref (base + 121)), (1, .int (a1)), (2, .int (a2)), (3, .int (a3)), (4, .int (l4i)), (5, .int (l5i)), (6, .int (l6i)), (7, .int (l7i)), (8, .int (l8i)), (9, .int (l9i)), (10, .int (l10i)), (11, .int (l11i)), (12, .long (l12l)), (14, .long (l14l)), (16, .int (l16i)), (17, .long (l17l)), (19, .long (s0l)), (21, .int (l21i)), (22, .long (l22l))]) [16, 0, 1, 2, 3, 4, 5, 6, 7, 8, 9, 10, 11, 12, 13, 14, 15, 17, 18] (rX12_exec_709 hkb a1 a2 a3 (l4i) (l6i) (l7i) (l8i) (l9i) (l10i) (l11i) (l12l) (l14l) (l16i) (l17l) (s0l) (l5i) (l21i) (l22l) n sl SH FI FL FR hok  hK18) ⟨rfl, rfl, rfl, rfl, rfl, rfl, rfl, rfl, rfl, rfl, rfl, rfl, rfl, rfl, rfl, rfl, rfl, rfl, rfl, trivial⟩
  · skip
    refine pw_iload (aX12_exec 358 rfl) rfl ?_
    refine pw_sipush (v := (153 : Int32)) (aX12_exec 359 rfl) rfl ?_
    refine pw_icne (tgt := 736) (aX12_exec 360 rfl) (by decide) (fun b1 => ?_) (fun b1 => ?_)
    · skip
      exact pw_Li (L2 := [(0, .ref (base + 121)), (1, .int (a1)), (2, .int (a2)), (3, .int (a3)), (4, .int (l4i)), (5, .int (l5i)), (6, .int (l6i)), (7, .int (l7i)), (8, .int (l8i)), (9, .int (l9i)), (10, .int (l10i)), (11, .int (l11i)), (12, .long (l12l)), (14, .long (l14l)), (16, .int (l16i)), (17, .long (l17l)), (19, .long (s0l)), (21, .int (l21i)), (22, .long (l22l))]) [16, 0, 1, 2, 3, 4, 5, 6, 7, 8, 9, 10, 11, 12, 13, 14, 15, 17, 18] (rX12_exec_709 hkb a1 a2 a3 (l4i) (l6i) (l7i) (l8i) (l9i) (l10i) (l11i) (l12l) (l14l) (l16i) (l17l) (s0l) (l5i) (l21i) (l22l) n sl SH FI FL FR hok  hK18) ⟨rfl, rfl, rfl, rfl, rfl, rfl, rfl, rfl, rfl, rfl, rfl, rfl, rfl, rfl, rfl, rfl, rfl, rfl, rfl, trivial⟩
    · skip
      exact pw_Li (L2 := [(0, .ref (base + 121)), (1, .int (a1)), (2, .int (a2)), (3, .int (a3)), (4, .int (l4i)), (5, .int (l5i)), (6, .int (l6i)), (7, .int (l7i)), (8, .int (l8i)), (9, .int (l9i)), (10, .int (l10i)), (11, .int (l11i)), (12, .long (l12l)), (14, .long (l14l)), (16, .int (l16i)), (17, .long (l17l)), (19, .long (s0l)), (21, .int (l21i)), (22, .long (l22l))]) [16, 0, 1, 2, 3, 4, 5, 6, 7, 8, 9, 10, 11, 12, 13, 14, 15, 17, 18] (rX12_exec_736 hkb a1 a2 a3 (l4i) (l6i) (l7i) (l8i) (l9i) (l10i) (l11i) (l12l) (l14l) (l16i) (l17l) (s0l) (l5i) (l21i) (l22l) n sl SH FI FL FR hok  hK18) ⟨rfl, rfl, rfl, rfl, rfl, rfl, rfl, rfl, rfl, rfl, rfl, rfl, rfl, rfl, rfl, rfl, rfl, rfl, rfl, trivial⟩
set_option maxHeartbeats 4000000 in
set_option maxRecDepth 100000 in
theorem rX12_exec_667 {sk : xK} {base N d : Nat} {K18 : Int32 → Int32 → Int32 → Int32 → Nat → Nat → (Nat → Nat × Nat) → (Nat → Nat → Int32) → (Nat → Nat → Int64) → (Nat → Nat → Option Nat) → Int32 → hS → Prop} (hkb : x_kb sk base) (a1 : Int32) (a2 : Int32) (a3 : Int32) (l4i : Int32) (l6i : Int32) (l7i : Int32) (l8i : Int32) (l9i : Int32) (l10i : Int32) (l11i : Int32) (l12l : Int64) (l14l : Int64) (l16i : Int32) (s0l : Int64) (l5i : Int32) (l17l : Int64) (l19l : Int64) (l21i : Int32) (l22l : Int64) (n sl : Nat) (SH : Nat → Nat × Nat) (FI : Nat → Nat → Int32) (FL : Nat → Nat → Int64) (FR : Nat → Nat → Option Nat) (hok : pk n SH FR)  (hK18 : ∀ (l4i : Int32) (l5i : Int32) (l6i : Int32) (l7i : Int32) (l8i : Int32) (l9i : Int32) (l10i : Int32) (l11i : Int32) (l12l : Int64) (l14l : Int64) (l16i : Int32) (l17l : Int64) (l19l : Int64) (l21i : Int32) (l22l : Int64) (n sl : Nat) (SH : Nat → Nat × Nat) (FI : Nat → Nat → Int32) (FL : Nat → Nat → Int64) (FR : Nat → Nat → Option Nat), pk n SH FR → pw pj_I sk base N d none 181 18 [(0, .ref (base + 121)), (1, .int (a1)), (2, .int (a2)), (3, .int (a3)), (4, .int (l4i)), (5, .int (l5i)), (6, .int (l6i)), (7, .int (l7i)), (8, .int (l8i)), (9, .int (l9i)), (10, .int (l10i)), (11, .int (l11i)), (12, .long (l12l)), (14, .long (l14l)), (16, .int (l16i)), (17, .long (l17l)), (19, .long (l19l)), (21, .int (l21i)), (22, .long (l22l))] [] (n, sl, SH, FI, FL, FR) (K18 l4i l5i l6i l7i n sl SH FI FL FR)) : pw pj_I sk base N d none 181 667 [(0, .ref (base + 121)), (1, .int (a1)), (2, .int (a2)), (3, .int (a3)), (4, .int (l4i)), (5, .int (l5i)), (6, .int (l6i)), (7, .int (l7i)), (8, .int (l8i)), (9, .int (l9i)), (10, .int (l10i)), (11, .int (l11i)), (12, .long (l12l)), (14, .long (l14l)), (16, .int (l16i)), (17, .long (l17l)), (19, .long (l19l)), (21, .int (l21i)), (22, .long (l22l))] [.long (s0l)] (n, sl, SH, FI, FL, FR) (RX12_exec_667 K18 a1 a2 a3 l4i l6i l7i l8i l9i l10i l11i l12l l14l l16i s0l n sl SH FI FL FR) := by
  unfold RX12_exec_667
  refine pw_lstore (L2 := [(17, .long (s0l)), (0, .ref (base + 121)), (1, .int (a1)), (2, .int (a2)), (3, .int (a3)), (4, .int (l4i)), (5, .int (l5i)), (6, .int (l6i)), (7, .int (l7i)), (8, .int (l8i)), (9, .int (l9i)), (10, .int (l10i)), (11, .int (l11i)), (12, .long (l12l)), (14, .long (l14l)), (16, .int (l16i)), (19, .long (l19l)), (21, .int (l21i)), (22, .long (l22l))]) (aX12_exec 340 rfl) rfl ?_
  refine pw_iload (aX12_exec 341 rfl) rfl ?_
  refine pw_iconst (v := (1 : Int32)) (aX12_exec 342 rfl) rfl ?_
  refine pw_icle (tgt := 690) (aX12_exec 343 rfl) (by decide) (fun b0 => ?_) (fun b0 => ?_)
  · skip
    refine pw_aloadn (aX12_exec 344 rfl) rfl ?_
    refine pw_getr (v := .ref (base + 127)) (aX12_exec 345 rfl) uf_RX12_33 un_RX12_33 (congrArg (fun r => va_rf (h_rf base r)) (q121_14 (hok).2.1)) ?_
    refine pw_iload (aX12_exec 346 rfl) rfl ?_
    refine pw_iload (aX12_exec 347 rfl) rfl ?_
    refine pw_iadd (aX12_exec 348 rfl) ?_
    refine pw_iconst (v := (2 : Int32)) (aX12_exec 349 rfl) rfl ?_
    refine pw_isub (aX12_exec 350 rfl) ?_
    refine pw_laldr (c := 127) (ix := (((l8i) + (l16i)) - ((2 : Int32))).toInt.toNat) (aX12_exec 351 rfl) rfl (fun _ => ?_)
    refine pw_goto (tgt := 691) (aX12_exec 352 rfl) (by decide) ?_
    exact pw_Li (L2 := [(0, .ref (base + 121)), (1, .int (a1)), (2, .int (a2)), (3, .int (a3)), (4, .int (l4i)), (5, .int (l5i)), (6, .int (l6i)), (7, .int (l7i)), (8, .int (l8i)), (9, .int (l9i)), (10, .int (l10i)), (11, .int (l11i)), (12, .long (l12l)), (14, .long (l14l)), (16, .int (l16i)), (17, .long (s0l)), (19, .long (l19l)), (21, .int (l21i)), (22, .long (l22l))]) [15, 0, 1, 2, 3, 4, 5, 6, 7, 8, 9, 10, 11, 12, 13, 14, 16, 17, 18] (rX12_exec_691 hkb a1 a2 a3 (l4i) (l6i) (l7i) (l8i) (l9i) (l10i) (l11i) (l12l) (l14l) (l16i) (s0l) (FL 127 (((l8i) + (l16i)) - ((2 : Int32))).toInt.toNat) (l5i) (l19l) (l21i) (l22l) n sl SH FI FL FR hok  hK18) ⟨rfl, rfl, rfl, rfl, rfl, rfl, rfl, rfl, rfl, rfl, rfl, rfl, rfl, rfl, rfl, rfl, rfl, rfl, rfl, trivial⟩
  · skip
    refine pw_lconst (v := (0 : Int64)) (aX12_exec 353 rfl) rfl ?_
    exact pw_Li (L2 := [(0, .ref (base + 121)), (1, .int (a1)), (2, .int (a2)), (3, .int (a3)), (4, .int (l4i)), (5, .int (l5i)), (6, .int (l6i)), (7, .int (l7i)), (8, .int (l8i)), (9, .int (l9i)), (10, .int (l10i)), (11, .int (l11i)), (12, .long (l12l)), (14, .long (l14l)), (16, .int (l16i)), (17, .long (s0l)), (19, .long (l19l)), (21, .int (l21i)), (22, .long (l22l))]) [15, 0, 1, 2, 3, 4, 5, 6, 7, 8, 9, 10, 11, 12, 13, 14, 16, 17, 18] (rX12_exec_691 hkb a1 a2 a3 (l4i) (l6i) (l7i) (l8i) (l9i) (l10i) (l11i) (l12l) (l14l) (l16i) (s0l) ((0 : Int64)) (l5i) (l19l) (l21i) (l22l) n sl SH FI FL FR hok  hK18) ⟨rfl, rfl, rfl, rfl, rfl, rfl, rfl, rfl, rfl, rfl, rfl, rfl, rfl, rfl, rfl, rfl, rfl, rfl, rfl, trivial⟩
set_option maxHeartbeats 4000000 in
set_option maxRecDepth 100000 in
theorem rX12_exec_560 {sk : xK} {base N d : Nat} {K18 : Int32 → Int32 → Int32 → Int32 → Nat → Nat → (Nat → Nat × Nat) → (Nat → Nat → Int32) → (Nat → Nat → Int64) → (Nat → Nat → Option Nat) → Int32 → hS → Prop} (hkb : x_kb sk base) (a1 : Int32) (a2 : Int32) (a3 : Int32) (l4i : Int32) (l6i : Int32) (l7i : Int32) (l8i : Int32) (l9i : Int32) (l10i : Int32) (l11i : Int32) (l12l : Int64) (l14l : Int64) (l5i : Int32) (l16i : Int32) (l17l : Int64) (l19l : Int64) (l21i : Int32) (l22l : Int64) (n sl : Nat) (SH : Nat → Nat × Nat) (FI : Nat → Nat → Int32) (FL : Nat → Nat → Int64) (FR : Nat → Nat → Option Nat) (hok : pk n SH FR)  (hK18 : ∀ (l4i : Int32) (l5i : Int32) (l6i : Int32) (l7i : Int32) (l8i : Int32) (l9i : Int32) (l10i : Int32) (l11i : Int32) (l12l : Int64) (l14l : Int64) (l16i : Int32) (l17l : Int64) (l19l : Int64) (l21i : Int32) (l22l : Int64) (n sl : Nat) (SH : Nat → Nat × Nat) (FI : Nat → Nat → Int32) (FL : Nat → Nat → Int64) (FR : Nat → Nat → Option Nat), pk n SH FR → pw pj_I sk base N d none 181 18 [(0, .ref (base + 121)), (1, .int (a1)), (2, .int (a2)), (3, .int (a3)), (4, .int (l4i)), (5, .int (l5i)), (6, .int (l6i)), (7, .int (l7i)), (8, .int (l8i)), (9, .int (l9i)), (10, .int (l10i)), (11, .int (l11i)), (12, .long (l12l)), (14, .long (l14l)), (16, .int (l16i)), (17, .long (l17l)), (19, .long (l19l)), (21, .int (l21i)), (22, .long (l22l))] [] (n, sl, SH, FI, FL, FR) (K18 l4i l5i l6i l7i n sl SH FI FL FR)) : pw pj_I sk base N d none 181 560 [(0, .ref (base + 121)), (1, .int (a1)), (2, .int (a2)), (3, .int (a3)), (4, .int (l4i)), (5, .int (l5i)), (6, .int (l6i)), (7, .int (l7i)), (8, .int (l8i)), (9, .int (l9i)), (10, .int (l10i)), (11, .int (l11i)), (12, .long (l12l)), (14, .long (l14l)), (16, .int (l16i)), (17, .long (l17l)), (19, .long (l19l)), (21, .int (l21i)), (22, .long (l22l))] [] (n, sl, SH, FI, FL, FR) (RX12_exec_560 K18 a1 a2 a3 l4i l6i l7i l8i l9i l10i l11i l12l l14l n sl SH FI FL FR) := by
  unfold RX12_exec_560
  refine pw_iload (aX12_exec 287 rfl) rfl ?_
  refine pw_sipush (v := (147 : Int32)) (aX12_exec 288 rfl) rfl ?_
  refine pw_iceq (tgt := 576) (aX12_exec 289 rfl) (by decide) (fun b0 => ?_) (fun b0 => ?_)
  · skip
    exact pw_Li (L2 := [(0, .ref (base + 121)), (1, .int (a1)), (2, .int (a2)), (3, .int (a3)), (4, .int (l4i)), (5, .int (l5i)), (6, .int (l6i)), (7, .int (l7i)), (8, .int (l8i)), (9, .int (l9i)), (10, .int (l10i)), (11, .int (l11i)), (12, .long (l12l)), (14, .long (l14l)), (16, .int (l16i)), (17, .long (l17l)), (19, .long (l19l)), (21, .int (l21i)), (22, .long (l22l))]) [0, 1, 2, 3, 4, 5, 6, 7, 8, 9, 10, 11, 12, 13, 14, 15, 16, 17, 18] (rX12_exec_576 hkb a1 a2 a3 (l4i) (l6i) (l7i) (l9i) (l10i) (l11i) (l12l) (l14l) (l5i) (l8i) (l16i) (l17l) (l19l) (l21i) (l22l) n sl SH FI FL FR hok  hK18) ⟨rfl, rfl, rfl, rfl, rfl, rfl, rfl, rfl, rfl, rfl, rfl, rfl, rfl, rfl, rfl, rfl, rfl, rfl, rfl, trivial⟩
  · skip
    refine pw_iload (aX12_exec 290 rfl) rfl ?_
    refine pw_sipush (v := (157 : Int32)) (aX12_exec 291 rfl) rfl ?_
    refine pw_icne (tgt := 618) (aX12_exec 292 rfl) (by decide) (fun b1 => ?_) (fun b1 => ?_)
    · skip
      exact pw_Li (L2 := [(0, .ref (base + 121)), (1, .int (a1)), (2, .int (a2)), (3, .int (a3)), (4, .int (l4i)), (5, .int (l5i)), (6, .int (l6i)), (7, .int (l7i)), (8, .int (l8i)), (9, .int (l9i)), (10, .int (l10i)), (11, .int (l11i)), (12, .long (l12l)), (14, .long (l14l)), (16, .int (l16i)), (17, .long (l17l)), (19, .long (l19l)), (21, .int (l21i)), (22, .long (l22l))]) [0, 1, 2, 3, 4, 5, 6, 7, 8, 9, 10, 11, 12, 13, 14, 15, 16, 17, 18] (rX12_exec_576 hkb a1 a2 a3 (l4i) (l6i) (l7i) (l9i) (l10i) (l11i) (l12l) (l14l) (l5i) (l8i) (l16i) (l17l) (l19l) (l21i) (l22l) n sl SH FI FL FR hok  hK18) ⟨rfl, rfl, rfl, rfl, rfl, rfl, rfl, rfl, rfl, rfl, rfl, rfl, rfl, rfl, rfl, rfl, rfl, rfl, rfl, trivial⟩
    · skip
      refine pw_aloadn (aX12_exec 313 rfl) rfl ?_
      refine pw_getr (v := .ref (base + 128)) (aX12_exec 314 rfl) uf_RX12_36 un_RX12_36 (congrArg (fun r => va_rf (h_rf base r)) (q121_15 (hok).2.1)) ?_
      refine pw_iload (aX12_exec 315 rfl) rfl ?_
      refine pw_ialdr (c := 128) (ix := (l4i).toInt.toNat) (aX12_exec 316 rfl) rfl (fun _ => ?_)
      refine pw_istore (L2 := [(16, .int (FI 128 (l4i).toInt.toNat)), (0, .ref (base + 121)), (1, .int (a1)), (2, .int (a2)), (3, .int (a3)), (4, .int (l4i)), (5, .int (l5i)), (6, .int (l6i)), (7, .int (l7i)), (8, .int (l8i)), (9, .int (l9i)), (10, .int (l10i)), (11, .int (l11i)), (12, .long (l12l)), (14, .long (l14l)), (17, .long (l17l)), (19, .long (l19l)), (21, .int (l21i)), (22, .long (l22l))]) (aX12_exec 317 rfl) rfl ?_
      refine pw_iload (aX12_exec 318 rfl) rfl ?_
      refine pw_aloadn (aX12_exec 319 rfl) rfl ?_
      refine pw_iload (aX12_exec 320 rfl) rfl ?_
      refine pw_cf (pw_callV (Bs := [.int (l10i)]) (rest := [.int (FI 128 (l4i).toInt.toNat)]) (aX12_exec 321 rfl) um_RX12_321 ujX12_wants wc_RX12_321.2.2.2.2 (by decide) (by decide) rfl rfl (fun d => rX12_wants hkb (l10i) n sl SH FI FL FR hok) (fun v2 n2 sl2 SH2 FI2 FL2 FR2 _ hC => ?_))
      obtain ⟨rfl, hC⟩ := hC; cases hC
      show pw _ _ _ _ _ _ _ 635 _ [.int (fX12_wants (l10i) SH FI FL FR), .int (FI 128 (l4i).toInt.toNat)] _ _
      refine pw_icge (tgt := 646) (aX12_exec 322 rfl) (by decide) (fun b3 => ?_) (fun b3 => ?_)
      · skip
        refine pw_aloadn (aX12_exec 323 rfl) rfl ?_
        refine pw_iconst (v := (3 : Int32)) (aX12_exec 324 rfl) rfl ?_
        refine pw_iload (aX12_exec 325 rfl) rfl ?_
        refine pw_callV (Bs := [.int ((3 : Int32)), .int (l9i)]) (rest := []) (aX12_exec 326 rfl) um_RX12_270 ujX12_fails wc_RX12_270.2.2.2.2 (by decide) (by decide) rfl rfl (fun d => rX12_fails hkb ((3 : Int32)) (l9i) n sl SH FI FL FR hok) (fun v4 n4 sl4 SH4 FI4 FL4 FR4 hok4 _ => ?_)
        show pw _ _ _ _ _ _ _ 645 _ [.int (v4)] _ _
        exact pw_iret (aX12_exec 327 rfl) hok4
      · skip
        refine pw_iload (aX12_exec 328 rfl) rfl ?_
        refine pw_ifle (tgt := 666) (aX12_exec 329 rfl) (by decide) (fun b5 => ?_) (fun b5 => ?_)
        · skip
          refine pw_aloadn (aX12_exec 330 rfl) rfl ?_
          refine pw_getr (v := .ref (base + 127)) (aX12_exec 331 rfl) uf_RX12_33 un_RX12_33 (congrArg (fun r => va_rf (h_rf base r)) (q121_14 (hok).2.1)) ?_
          refine pw_iload (aX12_exec 332 rfl) rfl ?_
          refine pw_iload (aX12_exec 333 rfl) rfl ?_
          refine pw_iadd (aX12_exec 334 rfl) ?_
          refine pw_iconst (v := (1 : Int32)) (aX12_exec 335 rfl) rfl ?_
          refine pw_isub (aX12_exec 336 rfl) ?_
          refine pw_laldr (c := 127) (ix := (((l8i) + (FI 128 (l4i).toInt.toNat)) - ((1 : Int32))).toInt.toNat) (aX12_exec 337 rfl) rfl (fun _ => ?_)
          refine pw_goto (tgt := 667) (aX12_exec 338 rfl) (by decide) ?_
          exact pw_Li (L2 := [(0, .ref (base + 121)), (1, .int (a1)), (2, .int (a2)), (3, .int (a3)), (4, .int (l4i)), (5, .int (l5i)), (6, .int (l6i)), (7, .int (l7i)), (8, .int (l8i)), (9, .int (l9i)), (10, .int (l10i)), (11, .int (l11i)), (12, .long (l12l)), (14, .long (l14l)), (16, .int (FI 128 (l4i).toInt.toNat)), (17, .long (l17l)), (19, .long (l19l)), (21, .int (l21i)), (22, .long (l22l))]) [14, 0, 1, 2, 3, 4, 5, 6, 7, 8, 9, 10, 11, 12, 13, 15, 16, 17, 18] (rX12_exec_667 hkb a1 a2 a3 (l4i) (l6i) (l7i) (l8i) (l9i) (l10i) (l11i) (l12l) (l14l) (FI 128 (l4i).toInt.toNat) (FL 127 (((l8i) + (FI 128 (l4i).toInt.toNat)) - ((1 : Int32))).toInt.toNat) (l5i) (l17l) (l19l) (l21i) (l22l) n sl SH FI FL FR hok  hK18) ⟨rfl, rfl, rfl, rfl, rfl, rfl, rfl, rfl, rfl, rfl, rfl, rfl, rfl, rfl, rfl, rfl, rfl, rfl, rfl, trivial⟩
        · skip
          refine pw_lconst (v := (0 : Int64)) (aX12_exec 339 rfl) rfl ?_
          exact pw_Li (L2 := [(0, .ref (base + 121)), (1, .int (a1)), (2, .int (a2)), (3, .int (a3)), (4, .int (l4i)), (5, .int (l5i)), (6, .int (l6i)), (7, .int (l7i)), (8, .int (l8i)), (9, .int (l9i)), (10, .int (l10i)), (11, .int (l11i)), (12, .long (l12l)), (14, .long (l14l)), (16, .int (FI 128 (l4i).toInt.toNat)), (17, .long (l17l)), (19, .long (l19l)), (21, .int (l21i)), (22, .long (l22l))]) [14, 0, 1, 2, 3, 4, 5, 6, 7, 8, 9, 10, 11, 12, 13, 15, 16, 17, 18] (rX12_exec_667 hkb a1 a2 a3 (l4i) (l6i) (l7i) (l8i) (l9i) (l10i) (l11i) (l12l) (l14l) (FI 128 (l4i).toInt.toNat) ((0 : Int64)) (l5i) (l17l) (l19l) (l21i) (l22l) n sl SH FI FL FR hok  hK18) ⟨rfl, rfl, rfl, rfl, rfl, rfl, rfl, rfl, rfl, rfl, rfl, rfl, rfl, rfl, rfl, rfl, rfl, rfl, rfl, trivial⟩
set_option maxHeartbeats 4000000 in
set_option maxRecDepth 100000 in
theorem rX12_exec_527 {sk : xK} {base N d : Nat} {K18 : Int32 → Int32 → Int32 → Int32 → Nat → Nat → (Nat → Nat × Nat) → (Nat → Nat → Int32) → (Nat → Nat → Int64) → (Nat → Nat → Option Nat) → Int32 → hS → Prop} (hkb : x_kb sk base) (a1 : Int32) (a2 : Int32) (a3 : Int32) (l4i : Int32) (l6i : Int32) (l7i : Int32) (l8i : Int32) (l9i : Int32) (l10i : Int32) (l11i : Int32) (l12l : Int64) (l14l : Int64) (l5i : Int32) (l16i : Int32) (l17l : Int64) (l19l : Int64) (l21i : Int32) (l22l : Int64) (n sl : Nat) (SH : Nat → Nat × Nat) (FI : Nat → Nat → Int32) (FL : Nat → Nat → Int64) (FR : Nat → Nat → Option Nat) (hok : pk n SH FR)  (hK18 : ∀ (l4i : Int32) (l5i : Int32) (l6i : Int32) (l7i : Int32) (l8i : Int32) (l9i : Int32) (l10i : Int32) (l11i : Int32) (l12l : Int64) (l14l : Int64) (l16i : Int32) (l17l : Int64) (l19l : Int64) (l21i : Int32) (l22l : Int64) (n sl : Nat) (SH : Nat → Nat × Nat) (FI : Nat → Nat → Int32) (FL : Nat → Nat → Int64) (FR : Nat → Nat → Option Nat), pk n SH FR → pw pj_I sk base N d none 181 18 [(0, .ref (base + 121)), (1, .int (a1)), (2, .int (a2)), (3, .int (a3)), (4, .int (l4i)), (5, .int (l5i)), (6, .int (l6i)), (7, .int (l7i)), (8, .int (l8i)), (9, .int (l9i)), (10, .int (l10i)), (11, .int (l11i)), (12, .long (l12l)), (14, .long (l14l)), (16, .int (l16i)), (17, .long (l17l)), (19, .long (l19l)), (21, .int (l21i)), (22, .long (l22l))] [] (n, sl, SH, FI, FL, FR) (K18 l4i l5i l6i l7i n sl SH FI FL FR)) : pw pj_I sk base N d none 181 527 [(0, .ref (base + 121)), (1, .int (a1)), (2, .int (a2)), (3, .int (a3)), (4, .int (l4i)), (5, .int (l5i)), (6, .int (l6i)), (7, .int (l7i)), (8, .int (l8i)), (9, .int (l9i)), (10, .int (l10i)), (11, .int (l11i)), (12, .long (l12l)), (14, .long (l14l)), (16, .int (l16i)), (17, .long (l17l)), (19, .long (l19l)), (21, .int (l21i)), (22, .long (l22l))] [] (n, sl, SH, FI, FL, FR) (RX12_exec_527 K18 a1 a2 a3 l4i l6i l7i l8i l9i l10i l11i l12l l14l n sl SH FI FL FR) := by
  unfold RX12_exec_527
  refine pw_iload (aX12_exec 271 rfl) rfl ?_
  refine pw_sipush (v := (148 : Int32)) (aX12_exec 272 rfl) rfl ?_
  refine pw_icne (tgt := 560) (aX12_exec 273 rfl) (by decide) (fun b0 => ?_) (fun b0 => ?_)
  · skip
    refine pw_lload (aX12_exec 274 rfl) rfl ?_
    refine pw_lconst (v := (1 : Int64)) (aX12_exec 275 rfl) rfl ?_
    refine pw_lclt (tgt := 551) (aX12_exec 276 rfl) (aX12_exec 277 rfl) (by decide) (fun b1 => ?_) (fun b1 => ?_)
    · skip
      refine pw_aloadn (aX12_exec 282 rfl) rfl ?_
      refine pw_bipush (v := (10 : Int32)) (aX12_exec 283 rfl) rfl ?_
      refine pw_iload (aX12_exec 284 rfl) rfl ?_
      refine pw_callV (Bs := [.int ((10 : Int32)), .int (l9i)]) (rest := []) (aX12_exec 285 rfl) um_RX12_270 ujX12_fails wc_RX12_270.2.2.2.2 (by decide) (by decide) rfl rfl (fun d => rX12_fails hkb ((10 : Int32)) (l9i) n sl SH FI FL FR hok) (fun v2 n2 sl2 SH2 FI2 FL2 FR2 hok2 _ => ?_)
      show pw _ _ _ _ _ _ _ 559 _ [.int (v2)] _ _
      exact pw_iret (aX12_exec 286 rfl) hok2
    · skip
      refine pw_lload (aX12_exec 278 rfl) rfl ?_
      refine pw_ldc2 (v := (8 : Int64)) (aX12_exec 279 rfl) uk_RX12_315 ?_
      refine pw_lcle (tgt := 560) (aX12_exec 280 rfl) (aX12_exec 281 rfl) (by decide) (fun b3 => ?_) (fun b3 => ?_)
      · skip
        refine pw_aloadn (aX12_exec 282 rfl) rfl ?_
        refine pw_bipush (v := (10 : Int32)) (aX12_exec 283 rfl) rfl ?_
        refine pw_iload (aX12_exec 284 rfl) rfl ?_
        refine pw_callV (Bs := [.int ((10 : Int32)), .int (l9i)]) (rest := []) (aX12_exec 285 rfl) um_RX12_270 ujX12_fails wc_RX12_270.2.2.2.2 (by decide) (by decide) rfl rfl (fun d => rX12_fails hkb ((10 : Int32)) (l9i) n sl SH FI FL FR hok) (fun v4 n4 sl4 SH4 FI4 FL4 FR4 hok4 _ => ?_)
        show pw _ _ _ _ _ _ _ 559 _ [.int (v4)] _ _
        exact pw_iret (aX12_exec 286 rfl) hok4
      · skip
        exact pw_Li (L2 := [(0, .ref (base + 121)), (1, .int (a1)), (2, .int (a2)), (3, .int (a3)), (4, .int (l4i)), (5, .int (l5i)), (6, .int (l6i)), (7, .int (l7i)), (8, .int (l8i)), (9, .int (l9i)), (10, .int (l10i)), (11, .int (l11i)), (12, .long (l12l)), (14, .long (l14l)), (16, .int (l16i)), (17, .long (l17l)), (19, .long (l19l)), (21, .int (l21i)), (22, .long (l22l))]) [0, 1, 2, 3, 4, 5, 6, 7, 8, 9, 10, 11, 12, 13, 14, 15, 16, 17, 18] (rX12_exec_560 hkb a1 a2 a3 (l4i) (l6i) (l7i) (l8i) (l9i) (l10i) (l11i) (l12l) (l14l) (l5i) (l16i) (l17l) (l19l) (l21i) (l22l) n sl SH FI FL FR hok  hK18) ⟨rfl, rfl, rfl, rfl, rfl, rfl, rfl, rfl, rfl, rfl, rfl, rfl, rfl, rfl, rfl, rfl, rfl, rfl, rfl, trivial⟩
  · skip
    exact pw_Li (L2 := [(0, .ref (base + 121)), (1, .int (a1)), (2, .int (a2)), (3, .int (a3)), (4, .int (l4i)), (5, .int (l5i)), (6, .int (l6i)), (7, .int (l7i)), (8, .int (l8i)), (9, .int (l9i)), (10, .int (l10i)), (11, .int (l11i)), (12, .long (l12l)), (14, .long (l14l)), (16, .int (l16i)), (17, .long (l17l)), (19, .long (l19l)), (21, .int (l21i)), (22, .long (l22l))]) [0, 1, 2, 3, 4, 5, 6, 7, 8, 9, 10, 11, 12, 13, 14, 15, 16, 17, 18] (rX12_exec_560 hkb a1 a2 a3 (l4i) (l6i) (l7i) (l8i) (l9i) (l10i) (l11i) (l12l) (l14l) (l5i) (l16i) (l17l) (l19l) (l21i) (l22l) n sl SH FI FL FR hok  hK18) ⟨rfl, rfl, rfl, rfl, rfl, rfl, rfl, rfl, rfl, rfl, rfl, rfl, rfl, rfl, rfl, rfl, rfl, rfl, rfl, trivial⟩
set_option maxHeartbeats 4000000 in
set_option maxRecDepth 100000 in
theorem rX12_exec_506 {sk : xK} {base N d : Nat} {K18 : Int32 → Int32 → Int32 → Int32 → Nat → Nat → (Nat → Nat × Nat) → (Nat → Nat → Int32) → (Nat → Nat → Int64) → (Nat → Nat → Option Nat) → Int32 → hS → Prop} (hkb : x_kb sk base) (a1 : Int32) (a2 : Int32) (a3 : Int32) (l4i : Int32) (l6i : Int32) (l7i : Int32) (l8i : Int32) (l9i : Int32) (l10i : Int32) (l11i : Int32) (l12l : Int64) (l14l : Int64) (l5i : Int32) (l16i : Int32) (l17l : Int64) (l19l : Int64) (l21i : Int32) (l22l : Int64) (n sl : Nat) (SH : Nat → Nat × Nat) (FI : Nat → Nat → Int32) (FL : Nat → Nat → Int64) (FR : Nat → Nat → Option Nat) (hok : pk n SH FR)  (hK18 : ∀ (l4i : Int32) (l5i : Int32) (l6i : Int32) (l7i : Int32) (l8i : Int32) (l9i : Int32) (l10i : Int32) (l11i : Int32) (l12l : Int64) (l14l : Int64) (l16i : Int32) (l17l : Int64) (l19l : Int64) (l21i : Int32) (l22l : Int64) (n sl : Nat) (SH : Nat → Nat × Nat) (FI : Nat → Nat → Int32) (FL : Nat → Nat → Int64) (FR : Nat → Nat → Option Nat), pk n SH FR → pw pj_I sk base N d none 181 18 [(0, .ref (base + 121)), (1, .int (a1)), (2, .int (a2)), (3, .int (a3)), (4, .int (l4i)), (5, .int (l5i)), (6, .int (l6i)), (7, .int (l7i)), (8, .int (l8i)), (9, .int (l9i)), (10, .int (l10i)), (11, .int (l11i)), (12, .long (l12l)), (14, .long (l14l)), (16, .int (l16i)), (17, .long (l17l)), (19, .long (l19l)), (21, .int (l21i)), (22, .long (l22l))] [] (n, sl, SH, FI, FL, FR) (K18 l4i l5i l6i l7i n sl SH FI FL FR)) : pw pj_I sk base N d none 181 506 [(0, .ref (base + 121)), (1, .int (a1)), (2, .int (a2)), (3, .int (a3)), (4, .int (l4i)), (5, .int (l5i)), (6, .int (l6i)), (7, .int (l7i)), (8, .int (l8i)), (9, .int (l9i)), (10, .int (l10i)), (11, .int (l11i)), (12, .long (l12l)), (14, .long (l14l)), (16, .int (l16i)), (17, .long (l17l)), (19, .long (l19l)), (21, .int (l21i)), (22, .long (l22l))] [] (n, sl, SH, FI, FL, FR) (RX12_exec_506 K18 a1 a2 a3 l4i l6i l7i l8i l9i l10i l11i l12l l14l n sl SH FI FL FR) := by
  unfold RX12_exec_506
  refine pw_aloadn (aX12_exec 261 rfl) rfl ?_
  refine pw_lload (aX12_exec 262 rfl) rfl ?_
  refine pw_ldc2 (v := (31 : Int64)) (aX12_exec 263 rfl) uk_RX12_310 ?_
  refine pw_cf (pw_callV (Bs := [.long (l12l), .long ((31 : Int64))]) (rest := []) (aX12_exec 264 rfl) um_RX12_312 ujX12_isAbove wc_RX12_312.2.2.2.2 (by decide) (by decide) rfl rfl (fun d => rX12_isAbove hkb (l12l) ((31 : Int64)) n sl SH FI FL FR hok) (fun v0 n0 sl0 SH0 FI0 FL0 FR0 _ hC => ?_))
  obtain ⟨rfl, hC⟩ := hC; cases hC
  show pw _ _ _ _ _ _ _ 515 _ [.int (fX12_isAbove (l12l) ((31 : Int64)) SH FI FL FR)] _ _
  refine pw_ifeq (tgt := 527) (aX12_exec 265 rfl) (by decide) (fun b1 => ?_) (fun b1 => ?_)
  · skip
    exact pw_Li (L2 := [(0, .ref (base + 121)), (1, .int (a1)), (2, .int (a2)), (3, .int (a3)), (4, .int (l4i)), (5, .int (l5i)), (6, .int (l6i)), (7, .int (l7i)), (8, .int (l8i)), (9, .int (l9i)), (10, .int (l10i)), (11, .int (l11i)), (12, .long (l12l)), (14, .long (l14l)), (16, .int (l16i)), (17, .long (l17l)), (19, .long (l19l)), (21, .int (l21i)), (22, .long (l22l))]) [0, 1, 2, 3, 4, 5, 6, 7, 8, 9, 10, 11, 12, 13, 14, 15, 16, 17, 18] (rX12_exec_527 hkb a1 a2 a3 (l4i) (l6i) (l7i) (l8i) (l9i) (l10i) (l11i) (l12l) (l14l) (l5i) (l16i) (l17l) (l19l) (l21i) (l22l) n sl SH FI FL FR hok  hK18) ⟨rfl, rfl, rfl, rfl, rfl, rfl, rfl, rfl, rfl, rfl, rfl, rfl, rfl, rfl, rfl, rfl, rfl, rfl, rfl, trivial⟩
  · skip
    refine pw_aloadn (aX12_exec 266 rfl) rfl ?_
    refine pw_bipush (v := (14 : Int32)) (aX12_exec 267 rfl) rfl ?_
    refine pw_iload (aX12_exec 268 rfl) rfl ?_
    refine pw_callV (Bs := [.int ((14 : Int32)), .int (l9i)]) (rest := []) (aX12_exec 269 rfl) um_RX12_270 ujX12_fails wc_RX12_270.2.2.2.2 (by decide) (by decide) rfl rfl (fun d => rX12_fails hkb ((14 : Int32)) (l9i) n sl SH FI FL FR hok) (fun v2 n2 sl2 SH2 FI2 FL2 FR2 hok2 _ => ?_)
    show pw _ _ _ _ _ _ _ 526 _ [.int (v2)] _ _
    exact pw_iret (aX12_exec 270 rfl) hok2
set_option maxHeartbeats 4000000 in
set_option maxRecDepth 100000 in
theorem rX12_exec_490 {sk : xK} {base N d : Nat} {K18 : Int32 → Int32 → Int32 → Int32 → Nat → Nat → (Nat → Nat × Nat) → (Nat → Nat → Int32) → (Nat → Nat → Int64) → (Nat → Nat → Option Nat) → Int32 → hS → Prop} (hkb : x_kb sk base) (a1 : Int32) (a2 : Int32) (a3 : Int32) (l4i : Int32) (l6i : Int32) (l7i : Int32) (l8i : Int32) (l9i : Int32) (l10i : Int32) (l11i : Int32) (l12l : Int64) (l14l : Int64) (l5i : Int32) (l16i : Int32) (l17l : Int64) (l19l : Int64) (l21i : Int32) (l22l : Int64) (n sl : Nat) (SH : Nat → Nat × Nat) (FI : Nat → Nat → Int32) (FL : Nat → Nat → Int64) (FR : Nat → Nat → Option Nat) (hok : pk n SH FR)  (hK18 : ∀ (l4i : Int32) (l5i : Int32) (l6i : Int32) (l7i : Int32) (l8i : Int32) (l9i : Int32) (l10i : Int32) (l11i : Int32) (l12l : Int64) (l14l : Int64) (l16i : Int32) (l17l : Int64) (l19l : Int64) (l21i : Int32) (l22l : Int64) (n sl : Nat) (SH : Nat → Nat × Nat) (FI : Nat → Nat → Int32) (FL : Nat → Nat → Int64) (FR : Nat → Nat → Option Nat), pk n SH FR → pw pj_I sk base N d none 181 18 [(0, .ref (base + 121)), (1, .int (a1)), (2, .int (a2)), (3, .int (a3)), (4, .int (l4i)), (5, .int (l5i)), (6, .int (l6i)), (7, .int (l7i)), (8, .int (l8i)), (9, .int (l9i)), (10, .int (l10i)), (11, .int (l11i)), (12, .long (l12l)), (14, .long (l14l)), (16, .int (l16i)), (17, .long (l17l)), (19, .long (l19l)), (21, .int (l21i)), (22, .long (l22l))] [] (n, sl, SH, FI, FL, FR) (K18 l4i l5i l6i l7i n sl SH FI FL FR)) : pw pj_I sk base N d none 181 490 [(0, .ref (base + 121)), (1, .int (a1)), (2, .int (a2)), (3, .int (a3)), (4, .int (l4i)), (5, .int (l5i)), (6, .int (l6i)), (7, .int (l7i)), (8, .int (l8i)), (9, .int (l9i)), (10, .int (l10i)), (11, .int (l11i)), (12, .long (l12l)), (14, .long (l14l)), (16, .int (l16i)), (17, .long (l17l)), (19, .long (l19l)), (21, .int (l21i)), (22, .long (l22l))] [] (n, sl, SH, FI, FL, FR) (RX12_exec_490 K18 a1 a2 a3 l4i l6i l7i l8i l9i l10i l11i l12l l14l n sl SH FI FL FR) := by
  unfold RX12_exec_490
  refine pw_iload (aX12_exec 255 rfl) rfl ?_
  refine pw_sipush (v := (144 : Int32)) (aX12_exec 256 rfl) rfl ?_
  refine pw_iceq (tgt := 506) (aX12_exec 257 rfl) (by decide) (fun b0 => ?_) (fun b0 => ?_)
  · skip
    exact pw_Li (L2 := [(0, .ref (base + 121)), (1, .int (a1)), (2, .int (a2)), (3, .int (a3)), (4, .int (l4i)), (5, .int (l5i)), (6, .int (l6i)), (7, .int (l7i)), (8, .int (l8i)), (9, .int (l9i)), (10, .int (l10i)), (11, .int (l11i)), (12, .long (l12l)), (14, .long (l14l)), (16, .int (l16i)), (17, .long (l17l)), (19, .long (l19l)), (21, .int (l21i)), (22, .long (l22l))]) [0, 1, 2, 3, 4, 5, 6, 7, 8, 9, 10, 11, 12, 13, 14, 15, 16, 17, 18] (rX12_exec_506 hkb a1 a2 a3 (l4i) (l6i) (l7i) (l8i) (l9i) (l10i) (l11i) (l12l) (l14l) (l5i) (l16i) (l17l) (l19l) (l21i) (l22l) n sl SH FI FL FR hok  hK18) ⟨rfl, rfl, rfl, rfl, rfl, rfl, rfl, rfl, rfl, rfl, rfl, rfl, rfl, rfl, rfl, rfl, rfl, rfl, rfl, trivial⟩
  · skip
    refine pw_iload (aX12_exec 258 rfl) rfl ?_
    refine pw_sipush (v := (146 : Int32)) (aX12_exec 259 rfl) rfl ?_
    refine pw_icne (tgt := 527) (aX12_exec 260 rfl) (by decide) (fun b1 => ?_) (fun b1 => ?_)
    · skip
      exact pw_Li (L2 := [(0, .ref (base + 121)), (1, .int (a1)), (2, .int (a2)), (3, .int (a3)), (4, .int (l4i)), (5, .int (l5i)), (6, .int (l6i)), (7, .int (l7i)), (8, .int (l8i)), (9, .int (l9i)), (10, .int (l10i)), (11, .int (l11i)), (12, .long (l12l)), (14, .long (l14l)), (16, .int (l16i)), (17, .long (l17l)), (19, .long (l19l)), (21, .int (l21i)), (22, .long (l22l))]) [0, 1, 2, 3, 4, 5, 6, 7, 8, 9, 10, 11, 12, 13, 14, 15, 16, 17, 18] (rX12_exec_506 hkb a1 a2 a3 (l4i) (l6i) (l7i) (l8i) (l9i) (l10i) (l11i) (l12l) (l14l) (l5i) (l16i) (l17l) (l19l) (l21i) (l22l) n sl SH FI FL FR hok  hK18) ⟨rfl, rfl, rfl, rfl, rfl, rfl, rfl, rfl, rfl, rfl, rfl, rfl, rfl, rfl, rfl, rfl, rfl, rfl, rfl, trivial⟩
    · skip
      exact pw_Li (L2 := [(0, .ref (base + 121)), (1, .int (a1)), (2, .int (a2)), (3, .int (a3)), (4, .int (l4i)), (5, .int (l5i)), (6, .int (l6i)), (7, .int (l7i)), (8, .int (l8i)), (9, .int (l9i)), (10, .int (l10i)), (11, .int (l11i)), (12, .long (l12l)), (14, .long (l14l)), (16, .int (l16i)), (17, .long (l17l)), (19, .long (l19l)), (21, .int (l21i)), (22, .long (l22l))]) [0, 1, 2, 3, 4, 5, 6, 7, 8, 9, 10, 11, 12, 13, 14, 15, 16, 17, 18] (rX12_exec_527 hkb a1 a2 a3 (l4i) (l6i) (l7i) (l8i) (l9i) (l10i) (l11i) (l12l) (l14l) (l5i) (l16i) (l17l) (l19l) (l21i) (l22l) n sl SH FI FL FR hok  hK18) ⟨rfl, rfl, rfl, rfl, rfl, rfl, rfl, rfl, rfl, rfl, rfl, rfl, rfl, rfl, rfl, rfl, rfl, rfl, rfl, trivial⟩
set_option maxHeartbeats 4000000 in
set_option maxRecDepth 100000 in
theorem rX12_exec_308 {sk : xK} {base N d : Nat} {K18 : Int32 → Int32 → Int32 → Int32 → Nat → Nat → (Nat → Nat × Nat) → (Nat → Nat → Int32) → (Nat → Nat → Int64) → (Nat → Nat → Option Nat) → Int32 → hS → Prop} (hkb : x_kb sk base) (a1 : Int32) (a2 : Int32) (a3 : Int32) (l4i : Int32) (l5i : Int32) (l6i : Int32) (l7i : Int32) (l8i : Int32) (s0i : Int32) (l9i : Int32) (l10i : Int32) (l11i : Int32) (l12l : Int64) (l14l : Int64) (l16i : Int32) (l17l : Int64) (l19l : Int64) (l21i : Int32) (l22l : Int64) (n sl : Nat) (SH : Nat → Nat × Nat) (FI : Nat → Nat → Int32) (FL : Nat → Nat → Int64) (FR : Nat → Nat → Option Nat) (hok : pk n SH FR)  (hK18 : ∀ (l4i : Int32) (l5i : Int32) (l6i : Int32) (l7i : Int32) (l8i : Int32) (l9i : Int32) (l10i : Int32) (l11i : Int32) (l12l : Int64) (l14l : Int64) (l16i : Int32) (l17l : Int64) (l19l : Int64) (l21i : Int32) (l22l : Int64) (n sl : Nat) (SH : Nat → Nat × Nat) (FI : Nat → Nat → Int32) (FL : Nat → Nat → Int64) (FR : Nat → Nat → Option Nat), pk n SH FR → pw pj_I sk base N d none 181 18 [(0, .ref (base + 121)), (1, .int (a1)), (2, .int (a2)), (3, .int (a3)), (4, .int (l4i)), (5, .int (l5i)), (6, .int (l6i)), (7, .int (l7i)), (8, .int (l8i)), (9, .int (l9i)), (10, .int (l10i)), (11, .int (l11i)), (12, .long (l12l)), (14, .long (l14l)), (16, .int (l16i)), (17, .long (l17l)), (19, .long (l19l)), (21, .int (l21i)), (22, .long (l22l))] [] (n, sl, SH, FI, FL, FR) (K18 l4i l5i l6i l7i n sl SH FI FL FR)) : pw pj_I sk base N d none 181 308 [(0, .ref (base + 121)), (1, .int (a1)), (2, .int (a2)), (3, .int (a3)), (4, .int (l4i)), (5, .int (l5i)), (6, .int (l6i)), (7, .int (l7i)), (8, .int (l8i)), (9, .int (l9i)), (10, .int (l10i)), (11, .int (l11i)), (12, .long (l12l)), (14, .long (l14l)), (16, .int (l16i)), (17, .long (l17l)), (19, .long (l19l)), (21, .int (l21i)), (22, .long (l22l))] [.int (s0i)] (n, sl, SH, FI, FL, FR) (RX12_exec_308 K18 a1 a2 a3 l4i l5i l6i l7i l8i s0i n sl SH FI FL FR) := by
  unfold RX12_exec_308
  refine pw_istore (L2 := [(9, .int (s0i)), (0, .ref (base + 121)), (1, .int (a1)), (2, .int (a2)), (3, .int (a3)), (4, .int (l4i)), (5, .int (l5i)), (6, .int (l6i)), (7, .int (l7i)), (8, .int (l8i)), (10, .int (l10i)), (11, .int (l11i)), (12, .long (l12l)), (14, .long (l14l)), (16, .int (l16i)), (17, .long (l17l)), (19, .long (l19l)), (21, .int (l21i)), (22, .long (l22l))]) (aX12_exec 165 rfl) rfl ?_
  refine pw_aloadn (aX12_exec 166 rfl) rfl ?_
  refine pw_getr (v := .int (FI 121 30)) (aX12_exec 167 rfl) uf_RX12_296 un_RX12_296 rfl ?_
  refine pw_ifne (tgt := 326) (aX12_exec 168 rfl) (by decide) (fun b0 => ?_) (fun b0 => ?_)
  · skip
    refine pw_aloadn (aX12_exec 169 rfl) rfl ?_
    refine pw_bipush (v := (12 : Int32)) (aX12_exec 170 rfl) rfl ?_
    refine pw_iload (aX12_exec 171 rfl) rfl ?_
    refine pw_callV (Bs := [.int ((12 : Int32)), .int (s0i)]) (rest := []) (aX12_exec 172 rfl) um_RX12_270 ujX12_fails wc_RX12_270.2.2.2.2 (by decide) (by decide) rfl rfl (fun d => rX12_fails hkb ((12 : Int32)) (s0i) n sl SH FI FL FR hok) (fun v1 n1 sl1 SH1 FI1 FL1 FR1 hok1 _ => ?_)
    show pw _ _ _ _ _ _ _ 325 _ [.int (v1)] _ _
    exact pw_iret (aX12_exec 173 rfl) hok1
  · skip
    refine pw_aloadn (aX12_exec 174 rfl) rfl ?_
    refine pw_aloadn (aX12_exec 175 rfl) rfl ?_
    refine pw_getr (v := .int (FI 121 30)) (aX12_exec 176 rfl) uf_RX12_296 un_RX12_296 rfl ?_
    refine pw_iconst (v := (1 : Int32)) (aX12_exec 177 rfl) rfl ?_
    refine pw_isub (aX12_exec 178 rfl) ?_
    refine pw_putri (aX12_exec 179 rfl) uf_RX12_296 (fun _ _ _ => rfl) (fun t3 => ?_)
    refine pw_aloadn (aX12_exec 180 rfl) rfl ?_
    refine pw_aloadn (aX12_exec 181 rfl) rfl ?_
    refine pw_getr (v := .int (FI 121 31)) (aX12_exec 182 rfl) uf_RX12_299 un_RX12_299 rfl ?_
    refine pw_iconst (v := (1 : Int32)) (aX12_exec 183 rfl) rfl ?_
    refine pw_iadd (aX12_exec 184 rfl) ?_
    refine pw_putri (aX12_exec 185 rfl) uf_RX12_299 (fun _ _ _ => rfl) (fun t4 => ?_)
    refine pw_aloadn (aX12_exec 186 rfl) rfl ?_
    refine pw_getr (v := .ref (base + 124)) (aX12_exec 187 rfl) uf_RX12_17 un_RX12_17 (congrArg (fun r => va_rf (h_rf base r)) (q121_3 (hok).2.1)) ?_
    refine pw_iload (aX12_exec 188 rfl) rfl ?_
    refine pw_ialdr (c := 124) (ix := (l5i).toInt.toNat) (aX12_exec 189 rfl) rfl (fun _ => ?_)
    refine pw_istore (L2 := [(10, .int (FI 124 (l5i).toInt.toNat)), (9, .int (s0i)), (0, .ref (base + 121)), (1, .int (a1)), (2, .int (a2)), (3, .int (a3)), (4, .int (l4i)), (5, .int (l5i)), (6, .int (l6i)), (7, .int (l7i)), (8, .int (l8i)), (11, .int (l11i)), (12, .long (l12l)), (14, .long (l14l)), (16, .int (l16i)), (17, .long (l17l)), (19, .long (l19l)), (21, .int (l21i)), (22, .long (l22l))]) (aX12_exec 190 rfl) rfl ?_
    refine pw_aloadn (aX12_exec 191 rfl) rfl ?_
    refine pw_iload (aX12_exec 192 rfl) rfl ?_
    refine pw_cf (pw_callV (Bs := [.int (FI 124 (l5i).toInt.toNat)]) (rest := []) (aX12_exec 193 rfl) um_RX12_302 ujX12_isKnown wc_RX12_302.2.2.2.2 (by decide) (by decide) rfl rfl (fun d => rX12_isKnown hkb (FI 124 (l5i).toInt.toNat) n sl SH (h_up (h_up FI 121 30 ((FI 121 30) - ((1 : Int32)))) 121 31 ((FI 121 31) + ((1 : Int32)))) FL FR hok) (fun v4 n4 sl4 SH4 FI4 FL4 FR4 _ hC => ?_))
    obtain ⟨rfl, hC⟩ := hC; cases hC
    show pw _ _ _ _ _ _ _ 361 _ [.int (fX12_isKnown (FI 124 (l5i).toInt.toNat) SH (h_up (h_up FI 121 30 ((FI 121 30) - ((1 : Int32)))) 121 31 ((FI 121 31) + ((1 : Int32)))) FL FR)] _ _
    refine pw_ifne (tgt := 372) (aX12_exec 194 rfl) (by decide) (fun b5 => ?_) (fun b5 => ?_)
    · skip
      refine pw_aloadn (aX12_exec 195 rfl) rfl ?_
      refine pw_iconst (v := (2 : Int32)) (aX12_exec 196 rfl) rfl ?_
      refine pw_iload (aX12_exec 197 rfl) rfl ?_
      refine pw_callV (Bs := [.int ((2 : Int32)), .int (s0i)]) (rest := []) (aX12_exec 198 rfl) um_RX12_270 ujX12_fails wc_RX12_270.2.2.2.2 (by decide) (by decide) rfl rfl (fun d => rX12_fails hkb ((2 : Int32)) (s0i) n sl SH (h_up (h_up FI 121 30 ((FI 121 30) - ((1 : Int32)))) 121 31 ((FI 121 31) + ((1 : Int32)))) FL FR hok) (fun v6 n6 sl6 SH6 FI6 FL6 FR6 hok6 _ => ?_)
      show pw _ _ _ _ _ _ _ 371 _ [.int (v6)] _ _
      exact pw_iret (aX12_exec 199 rfl) hok6
    · skip
      refine pw_aloadn (aX12_exec 200 rfl) rfl ?_
      refine pw_iload (aX12_exec 201 rfl) rfl ?_
      refine pw_iconst (v := (1 : Int32)) (aX12_exec 202 rfl) rfl ?_
      refine pw_iadd (aX12_exec 203 rfl) ?_
      refine pw_putri (aX12_exec 204 rfl) uf_RX12_223 (fun _ _ _ => rfl) (fun t8 => ?_)
      refine pw_aloadn (aX12_exec 205 rfl) rfl ?_
      refine pw_iload (aX12_exec 206 rfl) rfl ?_
      refine pw_iload (aX12_exec 207 rfl) rfl ?_
      refine pw_callV (Bs := [.int (FI 124 (l5i).toInt.toNat), .int (l7i)]) (rest := []) (aX12_exec 208 rfl) um_RX12_306 ujX12_operands wc_RX12_306.2.2.2.2 (by decide) (by decide) rfl rfl (fun d => rX12_operands hkb (FI 124 (l5i).toInt.toNat) (l7i) n sl SH (h_up (h_up (h_up FI 121 30 ((FI 121 30) - ((1 : Int32)))) 121 31 ((FI 121 31) + ((1 : Int32)))) 121 37 ((l5i) + ((1 : Int32)))) FL FR hok) (fun v8 n8 sl8 SH8 FI8 FL8 FR8 hok8 _ => ?_)
      show pw _ _ _ _ _ _ _ 388 _ [] _ _
      refine pw_aloadn (aX12_exec 209 rfl) rfl ?_
      refine pw_getr (v := .int (FI8 121 38)) (aX12_exec 210 rfl) uf_RX12_220 un_RX12_220 rfl ?_
      refine pw_ifeq (tgt := 406) (aX12_exec 211 rfl) (by decide) (fun b9 => ?_) (fun b9 => ?_)
      · skip
        refine pw_aloadn (aX12_exec 218 rfl) rfl ?_
        refine pw_getr (v := .int (FI8 121 37)) (aX12_exec 219 rfl) uf_RX12_223 un_RX12_223 rfl ?_
        refine pw_istore (L2 := [(11, .int (FI8 121 37)), (10, .int (FI 124 (l5i).toInt.toNat)), (9, .int (s0i)), (0, .ref (base + 121)), (1, .int (a1)), (2, .int (a2)), (3, .int (a3)), (4, .int (l4i)), (5, .int (l5i)), (6, .int (l6i)), (7, .int (l7i)), (8, .int (l8i)), (12, .long (l12l)), (14, .long (l14l)), (16, .int (l16i)), (17, .long (l17l)), (19, .long (l19l)), (21, .int (l21i)), (22, .long (l22l))]) (aX12_exec 220 rfl) rfl ?_
        refine pw_aloadn (aX12_exec 221 rfl) rfl ?_
        refine pw_getr (v := .long (FL8 121 35)) (aX12_exec 222 rfl) uf_RX12_228 un_RX12_228 rfl ?_
        refine pw_lstore (L2 := [(12, .long (FL8 121 35)), (11, .int (FI8 121 37)), (10, .int (FI 124 (l5i).toInt.toNat)), (9, .int (s0i)), (0, .ref (base + 121)), (1, .int (a1)), (2, .int (a2)), (3, .int (a3)), (4, .int (l4i)), (5, .int (l5i)), (6, .int (l6i)), (7, .int (l7i)), (8, .int (l8i)), (14, .long (l14l)), (16, .int (l16i)), (17, .long (l17l)), (19, .long (l19l)), (21, .int (l21i)), (22, .long (l22l))]) (aX12_exec 223 rfl) rfl ?_
        refine pw_aloadn (aX12_exec 224 rfl) rfl ?_
        refine pw_getr (v := .long (FL8 121 36)) (aX12_exec 225 rfl) uf_RX12_231 un_RX12_231 rfl ?_
        refine pw_lstore (L2 := [(14, .long (FL8 121 36)), (12, .long (FL8 121 35)), (11, .int (FI8 121 37)), (10, .int (FI 124 (l5i).toInt.toNat)), (9, .int (s0i)), (0, .ref (base + 121)), (1, .int (a1)), (2, .int (a2)), (3, .int (a3)), (4, .int (l4i)), (5, .int (l5i)), (6, .int (l6i)), (7, .int (l7i)), (8, .int (l8i)), (16, .int (l16i)), (17, .long (l17l)), (19, .long (l19l)), (21, .int (l21i)), (22, .long (l22l))]) (aX12_exec 226 rfl) rfl ?_
        refine pw_aloadn (aX12_exec 227 rfl) rfl ?_
        refine pw_getr (v := .ref (base + 136)) (aX12_exec 228 rfl) uf_RX12_60 un_RX12_60 (congrArg (fun r => va_rf (h_rf base r)) (q121_23 (hok8).2.1)) ?_
        refine pw_iload (aX12_exec 229 rfl) rfl ?_
        refine pw_ialdr (c := 136) (ix := (l4i).toInt.toNat) (aX12_exec 230 rfl) rfl (fun _ => ?_)
        refine pw_ifeq (tgt := 490) (aX12_exec 231 rfl) (by decide) (fun b10 => ?_) (fun b10 => ?_)
        · skip
          exact pw_Li (L2 := [(0, .ref (base + 121)), (1, .int (a1)), (2, .int (a2)), (3, .int (a3)), (4, .int (l4i)), (5, .int (l5i)), (6, .int (l6i)), (7, .int (l7i)), (8, .int (l8i)), (9, .int (s0i)), (10, .int (FI 124 (l5i).toInt.toNat)), (11, .int (FI8 121 37)), (12, .long (FL8 121 35)), (14, .long (FL8 121 36)), (16, .int (l16i)), (17, .long (l17l)), (19, .long (l19l)), (21, .int (l21i)), (22, .long (l22l))]) [13, 12, 11, 10, 9, 0, 1, 2, 3, 4, 5, 6, 7, 8, 14, 15, 16, 17, 18] (rX12_exec_490 hkb a1 a2 a3 (l4i) (l6i) (l7i) (l8i) (s0i) (FI 124 (l5i).toInt.toNat) (FI8 121 37) (FL8 121 35) (FL8 121 36) (l5i) (l16i) (l17l) (l19l) (l21i) (l22l) n8 sl8 SH8 FI8 FL8 FR8 hok8  hK18) ⟨rfl, rfl, rfl, rfl, rfl, rfl, rfl, rfl, rfl, rfl, rfl, rfl, rfl, rfl, rfl, rfl, rfl, rfl, rfl, trivial⟩
        · skip
          refine pw_iload (aX12_exec 232 rfl) rfl ?_
          refine pw_sipush (v := (147 : Int32)) (aX12_exec 233 rfl) rfl ?_
          refine pw_iceq (tgt := 490) (aX12_exec 234 rfl) (by decide) (fun b11 => ?_) (fun b11 => ?_)
          · skip
            exact pw_Li (L2 := [(0, .ref (base + 121)), (1, .int (a1)), (2, .int (a2)), (3, .int (a3)), (4, .int (l4i)), (5, .int (l5i)), (6, .int (l6i)), (7, .int (l7i)), (8, .int (l8i)), (9, .int (s0i)), (10, .int (FI 124 (l5i).toInt.toNat)), (11, .int (FI8 121 37)), (12, .long (FL8 121 35)), (14, .long (FL8 121 36)), (16, .int (l16i)), (17, .long (l17l)), (19, .long (l19l)), (21, .int (l21i)), (22, .long (l22l))]) [13, 12, 11, 10, 9, 0, 1, 2, 3, 4, 5, 6, 7, 8, 14, 15, 16, 17, 18] (rX12_exec_490 hkb a1 a2 a3 (l4i) (l6i) (l7i) (l8i) (s0i) (FI 124 (l5i).toInt.toNat) (FI8 121 37) (FL8 121 35) (FL8 121 36) (l5i) (l16i) (l17l) (l19l) (l21i) (l22l) n8 sl8 SH8 FI8 FL8 FR8 hok8  hK18) ⟨rfl, rfl, rfl, rfl, rfl, rfl, rfl, rfl, rfl, rfl, rfl, rfl, rfl, rfl, rfl, rfl, rfl, rfl, rfl, trivial⟩
          · skip
            refine pw_iload (aX12_exec 235 rfl) rfl ?_
            refine pw_sipush (v := (157 : Int32)) (aX12_exec 236 rfl) rfl ?_
            refine pw_iceq (tgt := 490) (aX12_exec 237 rfl) (by decide) (fun b12 => ?_) (fun b12 => ?_)
            · skip
              exact pw_Li (L2 := [(0, .ref (base + 121)), (1, .int (a1)), (2, .int (a2)), (3, .int (a3)), (4, .int (l4i)), (5, .int (l5i)), (6, .int (l6i)), (7, .int (l7i)), (8, .int (l8i)), (9, .int (s0i)), (10, .int (FI 124 (l5i).toInt.toNat)), (11, .int (FI8 121 37)), (12, .long (FL8 121 35)), (14, .long (FL8 121 36)), (16, .int (l16i)), (17, .long (l17l)), (19, .long (l19l)), (21, .int (l21i)), (22, .long (l22l))]) [13, 12, 11, 10, 9, 0, 1, 2, 3, 4, 5, 6, 7, 8, 14, 15, 16, 17, 18] (rX12_exec_490 hkb a1 a2 a3 (l4i) (l6i) (l7i) (l8i) (s0i) (FI 124 (l5i).toInt.toNat) (FI8 121 37) (FL8 121 35) (FL8 121 36) (l5i) (l16i) (l17l) (l19l) (l21i) (l22l) n8 sl8 SH8 FI8 FL8 FR8 hok8  hK18) ⟨rfl, rfl, rfl, rfl, rfl, rfl, rfl, rfl, rfl, rfl, rfl, rfl, rfl, rfl, rfl, rfl, rfl, rfl, rfl, trivial⟩
            · skip
              refine pw_iload (aX12_exec 238 rfl) rfl ?_
              refine pw_sipush (v := (150 : Int32)) (aX12_exec 239 rfl) rfl ?_
              refine pw_iceq (tgt := 490) (aX12_exec 240 rfl) (by decide) (fun b13 => ?_) (fun b13 => ?_)
              · skip
                exact pw_Li (L2 := [(0, .ref (base + 121)), (1, .int (a1)), (2, .int (a2)), (3, .int (a3)), (4, .int (l4i)), (5, .int (l5i)), (6, .int (l6i)), (7, .int (l7i)), (8, .int (l8i)), (9, .int (s0i)), (10, .int (FI 124 (l5i).toInt.toNat)), (11, .int (FI8 121 37)), (12, .long (FL8 121 35)), (14, .long (FL8 121 36)), (16, .int (l16i)), (17, .long (l17l)), (19, .long (l19l)), (21, .int (l21i)), (22, .long (l22l))]) [13, 12, 11, 10, 9, 0, 1, 2, 3, 4, 5, 6, 7, 8, 14, 15, 16, 17, 18] (rX12_exec_490 hkb a1 a2 a3 (l4i) (l6i) (l7i) (l8i) (s0i) (FI 124 (l5i).toInt.toNat) (FI8 121 37) (FL8 121 35) (FL8 121 36) (l5i) (l16i) (l17l) (l19l) (l21i) (l22l) n8 sl8 SH8 FI8 FL8 FR8 hok8  hK18) ⟨rfl, rfl, rfl, rfl, rfl, rfl, rfl, rfl, rfl, rfl, rfl, rfl, rfl, rfl, rfl, rfl, rfl, rfl, rfl, trivial⟩
              · skip
                refine pw_iload (aX12_exec 241 rfl) rfl ?_
                refine pw_bipush (v := (47 : Int32)) (aX12_exec 242 rfl) rfl ?_
                refine pw_iceq (tgt := 490) (aX12_exec 243 rfl) (by decide) (fun b14 => ?_) (fun b14 => ?_)
                · skip
                  exact pw_Li (L2 := [(0, .ref (base + 121)), (1, .int (a1)), (2, .int (a2)), (3, .int (a3)), (4, .int (l4i)), (5, .int (l5i)), (6, .int (l6i)), (7, .int (l7i)), (8, .int (l8i)), (9, .int (s0i)), (10, .int (FI 124 (l5i).toInt.toNat)), (11, .int (FI8 121 37)), (12, .long (FL8 121 35)), (14, .long (FL8 121 36)), (16, .int (l16i)), (17, .long (l17l)), (19, .long (l19l)), (21, .int (l21i)), (22, .long (l22l))]) [13, 12, 11, 10, 9, 0, 1, 2, 3, 4, 5, 6, 7, 8, 14, 15, 16, 17, 18] (rX12_exec_490 hkb a1 a2 a3 (l4i) (l6i) (l7i) (l8i) (s0i) (FI 124 (l5i).toInt.toNat) (FI8 121 37) (FL8 121 35) (FL8 121 36) (l5i) (l16i) (l17l) (l19l) (l21i) (l22l) n8 sl8 SH8 FI8 FL8 FR8 hok8  hK18) ⟨rfl, rfl, rfl, rfl, rfl, rfl, rfl, rfl, rfl, rfl, rfl, rfl, rfl, rfl, rfl, rfl, rfl, rfl, rfl, trivial⟩
                · skip
                  refine pw_iload (aX12_exec 244 rfl) rfl ?_
                  refine pw_sipush (v := (152 : Int32)) (aX12_exec 245 rfl) rfl ?_
                  refine pw_iceq (tgt := 490) (aX12_exec 246 rfl) (by decide) (fun b15 => ?_) (fun b15 => ?_)
                  · skip
                    exact pw_Li (L2 := [(0, .ref (base + 121)), (1, .int (a1)), (2, .int (a2)), (3, .int (a3)), (4, .int (l4i)), (5, .int (l5i)), (6, .int (l6i)), (7, .int (l7i)), (8, .int (l8i)), (9, .int (s0i)), (10, .int (FI 124 (l5i).toInt.toNat)), (11, .int (FI8 121 37)), (12, .long (FL8 121 35)), (14, .long (FL8 121 36)), (16, .int (l16i)), (17, .long (l17l)), (19, .long (l19l)), (21, .int (l21i)), (22, .long (l22l))]) [13, 12, 11, 10, 9, 0, 1, 2, 3, 4, 5, 6, 7, 8, 14, 15, 16, 17, 18] (rX12_exec_490 hkb a1 a2 a3 (l4i) (l6i) (l7i) (l8i) (s0i) (FI 124 (l5i).toInt.toNat) (FI8 121 37) (FL8 121 35) (FL8 121 36) (l5i) (l16i) (l17l) (l19l) (l21i) (l22l) n8 sl8 SH8 FI8 FL8 FR8 hok8  hK18) ⟨rfl, rfl, rfl, rfl, rfl, rfl, rfl, rfl, rfl, rfl, rfl, rfl, rfl, rfl, rfl, rfl, rfl, rfl, rfl, trivial⟩
                  · skip
                    refine pw_iload (aX12_exec 247 rfl) rfl ?_
                    refine pw_sipush (v := (153 : Int32)) (aX12_exec 248 rfl) rfl ?_
                    refine pw_iceq (tgt := 490) (aX12_exec 249 rfl) (by decide) (fun b16 => ?_) (fun b16 => ?_)
                    · skip
                      exact pw_Li (L2 := [(0, .ref (base + 121)), (1, .int (a1)), (2, .int (a2)), (3, .int (a3)), (4, .int (l4i)), (5, .int (l5i)), (6, .int (l6i)), (7, .int (l7i)), (8, .int (l8i)), (9, .int (s0i)), (10, .int (FI 124 (l5i).toInt.toNat)), (11, .int (FI8 121 37)), (12, .long (FL8 121 35)), (14, .long (FL8 121 36)), (16, .int (l16i)), (17, .long (l17l)), (19, .long (l19l)), (21, .int (l21i)), (22, .long (l22l))]) [13, 12, 11, 10, 9, 0, 1, 2, 3, 4, 5, 6, 7, 8, 14, 15, 16, 17, 18] (rX12_exec_490 hkb a1 a2 a3 (l4i) (l6i) (l7i) (l8i) (s0i) (FI 124 (l5i).toInt.toNat) (FI8 121 37) (FL8 121 35) (FL8 121 36) (l5i) (l16i) (l17l) (l19l) (l21i) (l22l) n8 sl8 SH8 FI8 FL8 FR8 hok8  hK18) ⟨rfl, rfl, rfl, rfl, rfl, rfl, rfl, rfl, rfl, rfl, rfl, rfl, rfl, rfl, rfl, rfl, rfl, rfl, rfl, trivial⟩
                    · skip
                      refine pw_aloadn (aX12_exec 250 rfl) rfl ?_
                      refine pw_bipush (v := (9 : Int32)) (aX12_exec 251 rfl) rfl ?_
                      refine pw_iload (aX12_exec 252 rfl) rfl ?_
                      refine pw_callV (Bs := [.int ((9 : Int32)), .int (s0i)]) (rest := []) (aX12_exec 253 rfl) um_RX12_270 ujX12_fails wc_RX12_270.2.2.2.2 (by decide) (by decide) rfl rfl (fun d => rX12_fails hkb ((9 : Int32)) (s0i) n8 sl8 SH8 FI8 FL8 FR8 hok8) (fun v17 n17 sl17 SH17 FI17 FL17 FR17 hok17 _ => ?_)
                      show pw _ _ _ _ _ _ _ 489 _ [.int (v17)] _ _
                      exact pw_iret (aX12_exec 254 rfl) hok17
      · skip
        refine pw_aloadn (aX12_exec 212 rfl) rfl ?_
        refine pw_aloadn (aX12_exec 213 rfl) rfl ?_
        refine pw_getr (v := .int (FI8 121 38)) (aX12_exec 214 rfl) uf_RX12_220 un_RX12_220 rfl ?_
        refine pw_iload (aX12_exec 215 rfl) rfl ?_
        refine pw_callV (Bs := [.int (FI8 121 38), .int (s0i)]) (rest := []) (aX12_exec 216 rfl) um_RX12_270 ujX12_fails wc_RX12_270.2.2.2.2 (by decide) (by decide) rfl rfl (fun d => rX12_fails hkb (FI8 121 38) (s0i) n8 sl8 SH8 FI8 FL8 FR8 hok8) (fun v18 n18 sl18 SH18 FI18 FL18 FR18 hok18 _ => ?_)
        show pw _ _ _ _ _ _ _ 405 _ [.int (v18)] _ _
        exact pw_iret (aX12_exec 217 rfl) hok18
set_option maxHeartbeats 4000000 in
set_option maxRecDepth 100000 in
theorem rX12_exec_304 {sk : xK} {base N d : Nat} {K18 : Int32 → Int32 → Int32 → Int32 → Nat → Nat → (Nat → Nat × Nat) → (Nat → Nat → Int32) → (Nat → Nat → Int64) → (Nat → Nat → Option Nat) → Int32 → hS → Prop} (hkb : x_kb sk base) (a1 : Int32) (a2 : Int32) (a3 : Int32) (l4i : Int32) (l5i : Int32) (l6i : Int32) (l7i : Int32) (l8i : Int32) (l9i : Int32) (l10i : Int32) (l11i : Int32) (l12l : Int64) (l14l : Int64) (l16i : Int32) (l17l : Int64) (l19l : Int64) (l21i : Int32) (l22l : Int64) (n sl : Nat) (SH : Nat → Nat × Nat) (FI : Nat → Nat → Int32) (FL : Nat → Nat → Int64) (FR : Nat → Nat → Option Nat) (hok : pk n SH FR)  (hK18 : ∀ (l4i : Int32) (l5i : Int32) (l6i : Int32) (l7i : Int32) (l8i : Int32) (l9i : Int32) (l10i : Int32) (l11i : Int32) (l12l : Int64) (l14l : Int64) (l16i : Int32) (l17l : Int64) (l19l : Int64) (l21i : Int32) (l22l : Int64) (n sl : Nat) (SH : Nat → Nat × Nat) (FI : Nat → Nat → Int32) (FL : Nat → Nat → Int64) (FR : Nat → Nat → Option Nat), pk n SH FR → pw pj_I sk base N d none 181 18 [(0, .ref (base + 121)), (1, .int (a1)), (2, .int (a2)), (3, .int (a3)), (4, .int (l4i)), (5, .int (l5i)), (6, .int (l6i)), (7, .int (l7i)), (8, .int (l8i)), (9, .int (l9i)), (10, .int (l10i)), (11, .int (l11i)), (12, .long (l12l)), (14, .long (l14l)), (16, .int (l16i)), (17, .long (l17l)), (19, .long (l19l)), (21, .int (l21i)), (22, .long (l22l))] [] (n, sl, SH, FI, FL, FR) (K18 l4i l5i l6i l7i n sl SH FI FL FR)) : pw pj_I sk base N d none 181 304 [(0, .ref (base + 121)), (1, .int (a1)), (2, .int (a2)), (3, .int (a3)), (4, .int (l4i)), (5, .int (l5i)), (6, .int (l6i)), (7, .int (l7i)), (8, .int (l8i)), (9, .int (l9i)), (10, .int (l10i)), (11, .int (l11i)), (12, .long (l12l)), (14, .long (l14l)), (16, .int (l16i)), (17, .long (l17l)), (19, .long (l19l)), (21, .int (l21i)), (22, .long (l22l))] [] (n, sl, SH, FI, FL, FR) (RX12_exec_304 K18 a1 a2 a3 l4i l5i l6i l7i l8i n sl SH FI FL FR) := by
  unfold RX12_exec_304
  refine pw_aloadn (aX12_exec 163 rfl) rfl ?_
  refine pw_getr (v := .int (FI 121 33)) (aX12_exec 164 rfl) uf_RX12_267 un_RX12_267 rfl ?_
  exact pw_Li (L2 := [(0, .ref (base + 121)), (1, .int (a1)), (2, .int (a2)), (3, .int (a3)), (4, .int (l4i)), (5, .int (l5i)), (6, .int (l6i)), (7, .int (l7i)), (8, .int (l8i)), (9, .int (l9i)), (10, .int (l10i)), (11, .int (l11i)), (12, .long (l12l)), (14, .long (l14l)), (16, .int (l16i)), (17, .long (l17l)), (19, .long (l19l)), (21, .int (l21i)), (22, .long (l22l))]) [0, 1, 2, 3, 4, 5, 6, 7, 8, 9, 10, 11, 12, 13, 14, 15, 16, 17, 18] (rX12_exec_308 hkb a1 a2 a3 (l4i) (l5i) (l6i) (l7i) (l8i) (FI 121 33) (l9i) (l10i) (l11i) (l12l) (l14l) (l16i) (l17l) (l19l) (l21i) (l22l) n sl SH FI FL FR hok  hK18) ⟨rfl, rfl, rfl, rfl, rfl, rfl, rfl, rfl, rfl, rfl, rfl, rfl, rfl, rfl, rfl, rfl, rfl, rfl, rfl, trivial⟩
set_option maxHeartbeats 4000000 in
set_option maxRecDepth 100000 in
theorem rX12_exec_116 {sk : xK} {base N d : Nat} {K18 : Int32 → Int32 → Int32 → Int32 → Nat → Nat → (Nat → Nat × Nat) → (Nat → Nat → Int32) → (Nat → Nat → Int64) → (Nat → Nat → Option Nat) → Int32 → hS → Prop} (hkb : x_kb sk base) (a1 : Int32) (a2 : Int32) (a3 : Int32) (l4i : Int32) (l5i : Int32) (l6i : Int32) (l7i : Int32) (l8i : Int32) (l9i : Int32) (l10i : Int32) (l11i : Int32) (l12l : Int64) (l14l : Int64) (l16i : Int32) (l17l : Int64) (l19l : Int64) (l21i : Int32) (l22l : Int64) (n sl : Nat) (SH : Nat → Nat × Nat) (FI : Nat → Nat → Int32) (FL : Nat → Nat → Int64) (FR : Nat → Nat → Option Nat) (hok : pk n SH FR)  (hK18 : ∀ (l4i : Int32) (l5i : Int32) (l6i : Int32) (l7i : Int32) (l8i : Int32) (l9i : Int32) (l10i : Int32) (l11i : Int32) (l12l : Int64) (l14l : Int64) (l16i : Int32) (l17l : Int64) (l19l : Int64) (l21i : Int32) (l22l : Int64) (n sl : Nat) (SH : Nat → Nat × Nat) (FI : Nat → Nat → Int32) (FL : Nat → Nat → Int64) (FR : Nat → Nat → Option Nat), pk n SH FR → pw pj_I sk base N d none 181 18 [(0, .ref (base + 121)), (1, .int (a1)), (2, .int (a2)), (3, .int (a3)), (4, .int (l4i)), (5, .int (l5i)), (6, .int (l6i)), (7, .int (l7i)), (8, .int (l8i)), (9, .int (l9i)), (10, .int (l10i)), (11, .int (l11i)), (12, .long (l12l)), (14, .long (l14l)), (16, .int (l16i)), (17, .long (l17l)), (19, .long (l19l)), (21, .int (l21i)), (22, .long (l22l))] [] (n, sl, SH, FI, FL, FR) (K18 l4i l5i l6i l7i n sl SH FI FL FR)) : pw pj_I sk base N d none 181 116 [(0, .ref (base + 121)), (1, .int (a1)), (2, .int (a2)), (3, .int (a3)), (4, .int (l4i)), (5, .int (l5i)), (6, .int (l6i)), (7, .int (l7i)), (8, .int (l8i)), (9, .int (l9i)), (10, .int (l10i)), (11, .int (l11i)), (12, .long (l12l)), (14, .long (l14l)), (16, .int (l16i)), (17, .long (l17l)), (19, .long (l19l)), (21, .int (l21i)), (22, .long (l22l))] [] (n, sl, SH, FI, FL, FR) (RX12_exec_116 K18 a1 a2 a3 l4i l5i l6i l7i n sl SH FI FL FR) := by
  unfold RX12_exec_116
  refine pw_iload (aX12_exec 64 rfl) rfl ?_
  refine pw_iload (aX12_exec 65 rfl) rfl ?_
  refine pw_icne (tgt := 275) (aX12_exec 66 rfl) (by decide) (fun b0 => ?_) (fun b0 => ?_)
  · skip
    refine pw_aloadn (aX12_exec 67 rfl) rfl ?_
    refine pw_getr (v := .ref (base + 129)) (aX12_exec 68 rfl) uf_RX12_39 un_RX12_39 (congrArg (fun r => va_rf (h_rf base r)) (q121_16 (hok).2.1)) ?_
    refine pw_iload (aX12_exec 69 rfl) rfl ?_
    refine pw_ialdr (c := 129) (ix := (l4i).toInt.toNat) (aX12_exec 70 rfl) rfl (fun _ => ?_)
    refine pw_ifle (tgt := 175) (aX12_exec 71 rfl) (by decide) (fun b1 => ?_) (fun b1 => ?_)
    · skip
      refine pw_aloadn (aX12_exec 72 rfl) rfl ?_
      refine pw_getr (v := .ref (base + 136)) (aX12_exec 73 rfl) uf_RX12_60 un_RX12_60 (congrArg (fun r => va_rf (h_rf base r)) (q121_23 (hok).2.1)) ?_
      refine pw_iload (aX12_exec 74 rfl) rfl ?_
      refine pw_ialdr (c := 136) (ix := (l4i).toInt.toNat) (aX12_exec 75 rfl) rfl (fun _ => ?_)
      refine pw_ifne (tgt := 153) (aX12_exec 76 rfl) (by decide) (fun b2 => ?_) (fun b2 => ?_)
      · skip
        refine pw_aloadn (aX12_exec 77 rfl) rfl ?_
        refine pw_getr (v := .ref (base + 128)) (aX12_exec 78 rfl) uf_RX12_36 un_RX12_36 (congrArg (fun r => va_rf (h_rf base r)) (q121_15 (hok).2.1)) ?_
        refine pw_iload (aX12_exec 79 rfl) rfl ?_
        refine pw_ialdr (c := 128) (ix := (l4i).toInt.toNat) (aX12_exec 80 rfl) rfl (fun _ => ?_)
        refine pw_ifle (tgt := 175) (aX12_exec 81 rfl) (by decide) (fun b3 => ?_) (fun b3 => ?_)
        · skip
          exact pw_Li (L2 := [(0, .ref (base + 121)), (1, .int (a1)), (2, .int (a2)), (3, .int (a3)), (4, .int (l4i)), (5, .int (l5i)), (6, .int (l6i)), (7, .int (l7i)), (8, .int (l8i)), (9, .int (l9i)), (10, .int (l10i)), (11, .int (l11i)), (12, .long (l12l)), (14, .long (l14l)), (16, .int (l16i)), (17, .long (l17l)), (19, .long (l19l)), (21, .int (l21i)), (22, .long (l22l))]) [0, 1, 2, 3, 4, 5, 6, 7, 8, 9, 10, 11, 12, 13, 14, 15, 16, 17, 18] (rX12_exec_153 hkb a1 a2 a3 (l4i) (l5i) (l6i) (l7i) (l8i) (l9i) (l10i) (l11i) (l12l) (l14l) (l16i) (l17l) (l19l) (l21i) (l22l) n sl SH FI FL FR hok  ) ⟨rfl, rfl, rfl, rfl, rfl, rfl, rfl, rfl, rfl, rfl, rfl, rfl, rfl, rfl, rfl, rfl, rfl, rfl, rfl, trivial⟩
        · skip
          exact pw_Li (L2 := [(0, .ref (base + 121)), (1, .int (a1)), (2, .int (a2)), (3, .int (a3)), (4, .int (l4i)), (5, .int (l5i)), (6, .int (l6i)), (7, .int (l7i)), (8, .int (l8i)), (9, .int (l9i)), (10, .int (l10i)), (11, .int (l11i)), (12, .long (l12l)), (14, .long (l14l)), (16, .int (l16i)), (17, .long (l17l)), (19, .long (l19l)), (21, .int (l21i)), (22, .long (l22l))]) [0, 1, 2, 3, 4, 5, 6, 7, 8, 9, 10, 11, 12, 13, 14, 15, 16, 17, 18] (rX12_exec_175 hkb a1 a2 a3 (l4i) (l5i) (l6i) (l7i) (l8i) (l9i) (l10i) (l11i) (l12l) (l14l) (l16i) (l17l) (l19l) (l21i) (l22l) n sl SH FI FL FR hok  hK18) ⟨rfl, rfl, rfl, rfl, rfl, rfl, rfl, rfl, rfl, rfl, rfl, rfl, rfl, rfl, rfl, rfl, rfl, rfl, rfl, trivial⟩
      · skip
        exact pw_Li (L2 := [(0, .ref (base + 121)), (1, .int (a1)), (2, .int (a2)), (3, .int (a3)), (4, .int (l4i)), (5, .int (l5i)), (6, .int (l6i)), (7, .int (l7i)), (8, .int (l8i)), (9, .int (l9i)), (10, .int (l10i)), (11, .int (l11i)), (12, .long (l12l)), (14, .long (l14l)), (16, .int (l16i)), (17, .long (l17l)), (19, .long (l19l)), (21, .int (l21i)), (22, .long (l22l))]) [0, 1, 2, 3, 4, 5, 6, 7, 8, 9, 10, 11, 12, 13, 14, 15, 16, 17, 18] (rX12_exec_153 hkb a1 a2 a3 (l4i) (l5i) (l6i) (l7i) (l8i) (l9i) (l10i) (l11i) (l12l) (l14l) (l16i) (l17l) (l19l) (l21i) (l22l) n sl SH FI FL FR hok  ) ⟨rfl, rfl, rfl, rfl, rfl, rfl, rfl, rfl, rfl, rfl, rfl, rfl, rfl, rfl, rfl, rfl, rfl, rfl, rfl, trivial⟩
    · skip
      exact pw_Li (L2 := [(0, .ref (base + 121)), (1, .int (a1)), (2, .int (a2)), (3, .int (a3)), (4, .int (l4i)), (5, .int (l5i)), (6, .int (l6i)), (7, .int (l7i)), (8, .int (l8i)), (9, .int (l9i)), (10, .int (l10i)), (11, .int (l11i)), (12, .long (l12l)), (14, .long (l14l)), (16, .int (l16i)), (17, .long (l17l)), (19, .long (l19l)), (21, .int (l21i)), (22, .long (l22l))]) [0, 1, 2, 3, 4, 5, 6, 7, 8, 9, 10, 11, 12, 13, 14, 15, 16, 17, 18] (rX12_exec_175 hkb a1 a2 a3 (l4i) (l5i) (l6i) (l7i) (l8i) (l9i) (l10i) (l11i) (l12l) (l14l) (l16i) (l17l) (l19l) (l21i) (l22l) n sl SH FI FL FR hok  hK18) ⟨rfl, rfl, rfl, rfl, rfl, rfl, rfl, rfl, rfl, rfl, rfl, rfl, rfl, rfl, rfl, rfl, rfl, rfl, rfl, trivial⟩
  · skip
    refine pw_sipush (v := (128 : Int32)) (aX12_exec 148 rfl) rfl ?_
    refine pw_iload (aX12_exec 149 rfl) rfl ?_
    refine pw_imul (aX12_exec 150 rfl) ?_
    refine pw_istore (L2 := [(8, .int (((128 : Int32)) * (l4i))), (0, .ref (base + 121)), (1, .int (a1)), (2, .int (a2)), (3, .int (a3)), (4, .int (l4i)), (5, .int (l5i)), (6, .int (l6i)), (7, .int (l7i)), (9, .int (l9i)), (10, .int (l10i)), (11, .int (l11i)), (12, .long (l12l)), (14, .long (l14l)), (16, .int (l16i)), (17, .long (l17l)), (19, .long (l19l)), (21, .int (l21i)), (22, .long (l22l))]) (aX12_exec 151 rfl) rfl ?_
    refine pw_iload (aX12_exec 152 rfl) rfl ?_
    refine pw_ifne (tgt := 304) (aX12_exec 153 rfl) (by decide) (fun b4 => ?_) (fun b4 => ?_)
    · skip
      refine pw_aloadn (aX12_exec 154 rfl) rfl ?_
      refine pw_getr (v := .ref (base + 142)) (aX12_exec 155 rfl) uf_RX12_78 un_RX12_78 (congrArg (fun r => va_rf (h_rf base r)) (q121_45 (hok).2.1)) ?_
      refine pw_iconst (v := (0 : Int32)) (aX12_exec 156 rfl) rfl ?_
      refine pw_ialdr (c := 142) (ix := 0) (aX12_exec 157 rfl) rfl (fun _ => ?_)
      refine pw_ifne (tgt := 304) (aX12_exec 158 rfl) (by decide) (fun b5 => ?_) (fun b5 => ?_)
      · skip
        refine pw_iload (aX12_exec 159 rfl) rfl ?_
        refine pw_iloadn (aX12_exec 160 rfl) rfl ?_
        refine pw_isub (aX12_exec 161 rfl) ?_
        refine pw_goto (tgt := 308) (aX12_exec 162 rfl) (by decide) ?_
        exact pw_Li (L2 := [(0, .ref (base + 121)), (1, .int (a1)), (2, .int (a2)), (3, .int (a3)), (4, .int (l4i)), (5, .int (l5i)), (6, .int (l6i)), (7, .int (l7i)), (8, .int (((128 : Int32)) * (l4i))), (9, .int (l9i)), (10, .int (l10i)), (11, .int (l11i)), (12, .long (l12l)), (14, .long (l14l)), (16, .int (l16i)), (17, .long (l17l)), (19, .long (l19l)), (21, .int (l21i)), (22, .long (l22l))]) [8, 0, 1, 2, 3, 4, 5, 6, 7, 9, 10, 11, 12, 13, 14, 15, 16, 17, 18] (rX12_exec_308 hkb a1 a2 a3 (l4i) (l5i) (l6i) (l7i) (((128 : Int32)) * (l4i)) ((l5i) - (a2)) (l9i) (l10i) (l11i) (l12l) (l14l) (l16i) (l17l) (l19l) (l21i) (l22l) n sl SH FI FL FR hok  hK18) ⟨rfl, rfl, rfl, rfl, rfl, rfl, rfl, rfl, rfl, rfl, rfl, rfl, rfl, rfl, rfl, rfl, rfl, rfl, rfl, trivial⟩
      · skip
        exact pw_Li (L2 := [(0, .ref (base + 121)), (1, .int (a1)), (2, .int (a2)), (3, .int (a3)), (4, .int (l4i)), (5, .int (l5i)), (6, .int (l6i)), (7, .int (l7i)), (8, .int (((128 : Int32)) * (l4i))), (9, .int (l9i)), (10, .int (l10i)), (11, .int (l11i)), (12, .long (l12l)), (14, .long (l14l)), (16, .int (l16i)), (17, .long (l17l)), (19, .long (l19l)), (21, .int (l21i)), (22, .long (l22l))]) [8, 0, 1, 2, 3, 4, 5, 6, 7, 9, 10, 11, 12, 13, 14, 15, 16, 17, 18] (rX12_exec_304 hkb a1 a2 a3 (l4i) (l5i) (l6i) (l7i) (((128 : Int32)) * (l4i)) (l9i) (l10i) (l11i) (l12l) (l14l) (l16i) (l17l) (l19l) (l21i) (l22l) n sl SH FI FL FR hok  hK18) ⟨rfl, rfl, rfl, rfl, rfl, rfl, rfl, rfl, rfl, rfl, rfl, rfl, rfl, rfl, rfl, rfl, rfl, rfl, rfl, trivial⟩
    · skip
      exact pw_Li (L2 := [(0, .ref (base + 121)), (1, .int (a1)), (2, .int (a2)), (3, .int (a3)), (4, .int (l4i)), (5, .int (l5i)), (6, .int (l6i)), (7, .int (l7i)), (8, .int (((128 : Int32)) * (l4i))), (9, .int (l9i)), (10, .int (l10i)), (11, .int (l11i)), (12, .long (l12l)), (14, .long (l14l)), (16, .int (l16i)), (17, .long (l17l)), (19, .long (l19l)), (21, .int (l21i)), (22, .long (l22l))]) [8, 0, 1, 2, 3, 4, 5, 6, 7, 9, 10, 11, 12, 13, 14, 15, 16, 17, 18] (rX12_exec_304 hkb a1 a2 a3 (l4i) (l5i) (l6i) (l7i) (((128 : Int32)) * (l4i)) (l9i) (l10i) (l11i) (l12l) (l14l) (l16i) (l17l) (l19l) (l21i) (l22l) n sl SH FI FL FR hok  hK18) ⟨rfl, rfl, rfl, rfl, rfl, rfl, rfl, rfl, rfl, rfl, rfl, rfl, rfl, rfl, rfl, rfl, rfl, rfl, rfl, trivial⟩
set_option maxHeartbeats 4000000 in
set_option maxRecDepth 100000 in
theorem bX12_exec_18 {sk : xK} {base N d : Nat} {K18 : Int32 → Int32 → Int32 → Int32 → Nat → Nat → (Nat → Nat × Nat) → (Nat → Nat → Int32) → (Nat → Nat → Int64) → (Nat → Nat → Option Nat) → Int32 → hS → Prop} (hkb : x_kb sk base) (a1 : Int32) (a2 : Int32) (a3 : Int32) (l4i : Int32) (l5i : Int32) (l6i : Int32) (l7i : Int32) (l8i : Int32) (l9i : Int32) (l10i : Int32) (l11i : Int32) (l12l : Int64) (l14l : Int64) (l16i : Int32) (l17l : Int64) (l19l : Int64) (l21i : Int32) (l22l : Int64) (n sl : Nat) (SH : Nat → Nat × Nat) (FI : Nat → Nat → Int32) (FL : Nat → Nat → Int64) (FR : Nat → Nat → Option Nat) (hok : pk n SH FR)  (hK18 : ∀ (l4i : Int32) (l5i : Int32) (l6i : Int32) (l7i : Int32) (l8i : Int32) (l9i : Int32) (l10i : Int32) (l11i : Int32) (l12l : Int64) (l14l : Int64) (l16i : Int32) (l17l : Int64) (l19l : Int64) (l21i : Int32) (l22l : Int64) (n sl : Nat) (SH : Nat → Nat × Nat) (FI : Nat → Nat → Int32) (FL : Nat → Nat → Int64) (FR : Nat → Nat → Option Nat), pk n SH FR → pw pj_I sk base N d none 181 18 [(0, .ref (base + 121)), (1, .int (a1)), (2, .int (a2)), (3, .int (a3)), (4, .int (l4i)), (5, .int (l5i)), (6, .int (l6i)), (7, .int (l7i)), (8, .int (l8i)), (9, .int (l9i)), (10, .int (l10i)), (11, .int (l11i)), (12, .long (l12l)), (14, .long (l14l)), (16, .int (l16i)), (17, .long (l17l)), (19, .long (l19l)), (21, .int (l21i)), (22, .long (l22l))] [] (n, sl, SH, FI, FL, FR) (K18 l4i l5i l6i l7i n sl SH FI FL FR)) : pw pj_I sk base (N + 1) d none 181 18 [(0, .ref (base + 121)), (1, .int (a1)), (2, .int (a2)), (3, .int (a3)), (4, .int (l4i)), (5, .int (l5i)), (6, .int (l6i)), (7, .int (l7i)), (8, .int (l8i)), (9, .int (l9i)), (10, .int (l10i)), (11, .int (l11i)), (12, .long (l12l)), (14, .long (l14l)), (16, .int (l16i)), (17, .long (l17l)), (19, .long (l19l)), (21, .int (l21i)), (22, .long (l22l))] [] (n, sl, SH, FI, FL, FR) (BX12_exec_18 K18 a1 a2 a3 l4i l5i l6i l7i n sl SH FI FL FR) := by
  unfold BX12_exec_18
  refine pd_iload (aX12_exec 11 rfl) rfl ?_
  refine pw_iload (aX12_exec 12 rfl) rfl ?_
  refine pw_icne (tgt := 116) (aX12_exec 13 rfl) (by decide) (fun b0 => ?_) (fun b0 => ?_)
  · skip
    refine pw_aloadn (aX12_exec 14 rfl) rfl ?_
    refine pw_getr (v := .ref (base + 142)) (aX12_exec 15 rfl) uf_RX12_78 un_RX12_78 (congrArg (fun r => va_rf (h_rf base r)) (q121_45 (hok).2.1)) ?_
    refine pw_iload (aX12_exec 16 rfl) rfl ?_
    refine pw_ialdr (c := 142) (ix := (l4i).toInt.toNat) (aX12_exec 17 rfl) rfl (fun _ => ?_)
    refine pw_ifle (tgt := 116) (aX12_exec 18 rfl) (by decide) (fun b1 => ?_) (fun b1 => ?_)
    · skip
      refine pw_aloadn (aX12_exec 19 rfl) rfl ?_
      refine pw_getr (v := .ref (base + 142)) (aX12_exec 20 rfl) uf_RX12_78 un_RX12_78 (congrArg (fun r => va_rf (h_rf base r)) (q121_45 (hok).2.1)) ?_
      refine pw_iload (aX12_exec 21 rfl) rfl ?_
      refine pw_aloadn (aX12_exec 22 rfl) rfl ?_
      refine pw_getr (v := .ref (base + 142)) (aX12_exec 23 rfl) uf_RX12_78 un_RX12_78 (congrArg (fun r => va_rf (h_rf base r)) (q121_45 (hok).2.1)) ?_
      refine pw_iload (aX12_exec 24 rfl) rfl ?_
      refine pw_ialdr (c := 142) (ix := (l4i).toInt.toNat) (aX12_exec 25 rfl) rfl (fun _ => ?_)
      refine pw_iconst (v := (1 : Int32)) (aX12_exec 26 rfl) rfl ?_
      refine pw_isub (aX12_exec 27 rfl) ?_
      refine pw_iastr (c := 142) (ix := (l4i).toInt.toNat) (aX12_exec 28 rfl) rfl (fun _ => ?_)
      refine pw_aloadn (aX12_exec 29 rfl) rfl ?_
      refine pw_aloadn (aX12_exec 30 rfl) rfl ?_
      refine pw_getr (v := .int (FI 121 29)) (aX12_exec 31 rfl) uf_RX12_264 un_RX12_264 rfl ?_
      refine pw_iconst (v := (1 : Int32)) (aX12_exec 32 rfl) rfl ?_
      refine pw_isub (aX12_exec 33 rfl) ?_
      refine pw_putri (aX12_exec 34 rfl) uf_RX12_264 (fun _ _ _ => rfl) (fun t3 => ?_)
      refine pw_aloadn (aX12_exec 35 rfl) rfl ?_
      refine pw_getr (v := .ref (base + 139)) (aX12_exec 36 rfl) uf_RX12_69 un_RX12_69 (congrArg (fun r => va_rf (h_rf base r)) (q121_26 (hok).2.1)) ?_
      refine pw_aloadn (aX12_exec 37 rfl) rfl ?_
      refine pw_getr (v := .int ((FI 121 29) - ((1 : Int32)))) (aX12_exec 38 rfl) uf_RX12_264 un_RX12_264 rfl ?_
      refine pw_ialdr (c := 139) (ix := ((FI 121 29) - ((1 : Int32))).toInt.toNat) (aX12_exec 39 rfl) rfl (fun _ => ?_)
      refine pw_istore (L2 := [(5, .int (FI 139 ((FI 121 29) - ((1 : Int32))).toInt.toNat)), (0, .ref (base + 121)), (1, .int (a1)), (2, .int (a2)), (3, .int (a3)), (4, .int (l4i)), (6, .int (l6i)), (7, .int (l7i)), (8, .int (l8i)), (9, .int (l9i)), (10, .int (l10i)), (11, .int (l11i)), (12, .long (l12l)), (14, .long (l14l)), (16, .int (l16i)), (17, .long (l17l)), (19, .long (l19l)), (21, .int (l21i)), (22, .long (l22l))]) (aX12_exec 40 rfl) rfl ?_
      refine pw_aloadn (aX12_exec 41 rfl) rfl ?_
      refine pw_getr (v := .ref (base + 140)) (aX12_exec 42 rfl) uf_RX12_72 un_RX12_72 (congrArg (fun r => va_rf (h_rf base r)) (q121_27 (hok).2.1)) ?_
      refine pw_aloadn (aX12_exec 43 rfl) rfl ?_
      refine pw_getr (v := .int ((FI 121 29) - ((1 : Int32)))) (aX12_exec 44 rfl) uf_RX12_264 un_RX12_264 rfl ?_
      refine pw_ialdr (c := 140) (ix := ((FI 121 29) - ((1 : Int32))).toInt.toNat) (aX12_exec 45 rfl) rfl (fun _ => ?_)
      refine pw_istore (L2 := [(6, .int (FI 140 ((FI 121 29) - ((1 : Int32))).toInt.toNat)), (5, .int (FI 139 ((FI 121 29) - ((1 : Int32))).toInt.toNat)), (0, .ref (base + 121)), (1, .int (a1)), (2, .int (a2)), (3, .int (a3)), (4, .int (l4i)), (7, .int (l7i)), (8, .int (l8i)), (9, .int (l9i)), (10, .int (l10i)), (11, .int (l11i)), (12, .long (l12l)), (14, .long (l14l)), (16, .int (l16i)), (17, .long (l17l)), (19, .long (l19l)), (21, .int (l21i)), (22, .long (l22l))]) (aX12_exec 46 rfl) rfl ?_
      refine pw_aloadn (aX12_exec 47 rfl) rfl ?_
      refine pw_getr (v := .ref (base + 141)) (aX12_exec 48 rfl) uf_RX12_75 un_RX12_75 (congrArg (fun r => va_rf (h_rf base r)) (q121_28 (hok).2.1)) ?_
      refine pw_aloadn (aX12_exec 49 rfl) rfl ?_
      refine pw_getr (v := .int ((FI 121 29) - ((1 : Int32)))) (aX12_exec 50 rfl) uf_RX12_264 un_RX12_264 rfl ?_
      refine pw_ialdr (c := 141) (ix := ((FI 121 29) - ((1 : Int32))).toInt.toNat) (aX12_exec 51 rfl) rfl (fun _ => ?_)
      refine pw_istore (L2 := [(7, .int (FI 141 ((FI 121 29) - ((1 : Int32))).toInt.toNat)), (6, .int (FI 140 ((FI 121 29) - ((1 : Int32))).toInt.toNat)), (5, .int (FI 139 ((FI 121 29) - ((1 : Int32))).toInt.toNat)), (0, .ref (base + 121)), (1, .int (a1)), (2, .int (a2)), (3, .int (a3)), (4, .int (l4i)), (8, .int (l8i)), (9, .int (l9i)), (10, .int (l10i)), (11, .int (l11i)), (12, .long (l12l)), (14, .long (l14l)), (16, .int (l16i)), (17, .long (l17l)), (19, .long (l19l)), (21, .int (l21i)), (22, .long (l22l))]) (aX12_exec 52 rfl) rfl ?_
      refine pw_iload (aX12_exec 53 rfl) rfl ?_
      refine pw_ifne (tgt := 18) (aX12_exec 54 rfl) (by decide) (fun b3 => ?_) (fun b3 => ?_)
      · skip
        refine pw_aloadn (aX12_exec 55 rfl) rfl ?_
        refine pw_getr (v := .ref (base + 142)) (aX12_exec 56 rfl) uf_RX12_78 un_RX12_78 (congrArg (fun r => va_rf (h_rf base r)) (q121_45 (hok).2.1)) ?_
        refine pw_iconst (v := (0 : Int32)) (aX12_exec 57 rfl) rfl ?_
        refine pw_ialdr (c := 142) (ix := 0) (aX12_exec 58 rfl) rfl (fun _ => ?_)
        refine pw_ifne (tgt := 18) (aX12_exec 59 rfl) (by decide) (fun b4 => ?_) (fun b4 => ?_)
        · skip
          refine pw_aloadn (aX12_exec 60 rfl) rfl ?_
          refine pw_iconst (v := (-1 : Int32)) (aX12_exec 61 rfl) rfl ?_
          refine pw_putri (aX12_exec 62 rfl) uf_RX12_267 (fun _ _ _ => rfl) (fun t6 => ?_)
          refine pw_goto (tgt := 18) (aX12_exec 63 rfl) (by decide) ?_
          exact pw_Li (L2 := [(0, .ref (base + 121)), (1, .int (a1)), (2, .int (a2)), (3, .int (a3)), (4, .int (l4i)), (5, .int (FI 139 ((FI 121 29) - ((1 : Int32))).toInt.toNat)), (6, .int (FI 140 ((FI 121 29) - ((1 : Int32))).toInt.toNat)), (7, .int (FI 141 ((FI 121 29) - ((1 : Int32))).toInt.toNat)), (8, .int (l8i)), (9, .int (l9i)), (10, .int (l10i)), (11, .int (l11i)), (12, .long (l12l)), (14, .long (l14l)), (16, .int (l16i)), (17, .long (l17l)), (19, .long (l19l)), (21, .int (l21i)), (22, .long (l22l))]) [7, 6, 5, 0, 1, 2, 3, 4, 8, 9, 10, 11, 12, 13, 14, 15, 16, 17, 18] (hK18 (l4i) (FI 139 ((FI 121 29) - ((1 : Int32))).toInt.toNat) (FI 140 ((FI 121 29) - ((1 : Int32))).toInt.toNat) (FI 141 ((FI 121 29) - ((1 : Int32))).toInt.toNat) (l8i) (l9i) (l10i) (l11i) (l12l) (l14l) (l16i) (l17l) (l19l) (l21i) (l22l) n sl SH (h_up (h_up (h_up FI 142 (l4i).toInt.toNat ((FI 142 (l4i).toInt.toNat) - ((1 : Int32)))) 121 29 ((FI 121 29) - ((1 : Int32)))) 121 33 ((-1 : Int32))) FL FR hok) ⟨rfl, rfl, rfl, rfl, rfl, rfl, rfl, rfl, rfl, rfl, rfl, rfl, rfl, rfl, rfl, rfl, rfl, rfl, rfl, trivial⟩
        · skip
          exact pw_Li (L2 := [(0, .ref (base + 121)), (1, .int (a1)), (2, .int (a2)), (3, .int (a3)), (4, .int (l4i)), (5, .int (FI 139 ((FI 121 29) - ((1 : Int32))).toInt.toNat)), (6, .int (FI 140 ((FI 121 29) - ((1 : Int32))).toInt.toNat)), (7, .int (FI 141 ((FI 121 29) - ((1 : Int32))).toInt.toNat)), (8, .int (l8i)), (9, .int (l9i)), (10, .int (l10i)), (11, .int (l11i)), (12, .long (l12l)), (14, .long (l14l)), (16, .int (l16i)), (17, .long (l17l)), (19, .long (l19l)), (21, .int (l21i)), (22, .long (l22l))]) [7, 6, 5, 0, 1, 2, 3, 4, 8, 9, 10, 11, 12, 13, 14, 15, 16, 17, 18] (hK18 (l4i) (FI 139 ((FI 121 29) - ((1 : Int32))).toInt.toNat) (FI 140 ((FI 121 29) - ((1 : Int32))).toInt.toNat) (FI 141 ((FI 121 29) - ((1 : Int32))).toInt.toNat) (l8i) (l9i) (l10i) (l11i) (l12l) (l14l) (l16i) (l17l) (l19l) (l21i) (l22l) n sl SH (h_up (h_up FI 142 (l4i).toInt.toNat ((FI 142 (l4i).toInt.toNat) - ((1 : Int32)))) 121 29 ((FI 121 29) - ((1 : Int32)))) FL FR hok) ⟨rfl, rfl, rfl, rfl, rfl, rfl, rfl, rfl, rfl, rfl, rfl, rfl, rfl, rfl, rfl, rfl, rfl, rfl, rfl, trivial⟩
      · skip
        exact pw_Li (L2 := [(0, .ref (base + 121)), (1, .int (a1)), (2, .int (a2)), (3, .int (a3)), (4, .int (l4i)), (5, .int (FI 139 ((FI 121 29) - ((1 : Int32))).toInt.toNat)), (6, .int (FI 140 ((FI 121 29) - ((1 : Int32))).toInt.toNat)), (7, .int (FI 141 ((FI 121 29) - ((1 : Int32))).toInt.toNat)), (8, .int (l8i)), (9, .int (l9i)), (10, .int (l10i)), (11, .int (l11i)), (12, .long (l12l)), (14, .long (l14l)), (16, .int (l16i)), (17, .long (l17l)), (19, .long (l19l)), (21, .int (l21i)), (22, .long (l22l))]) [7, 6, 5, 0, 1, 2, 3, 4, 8, 9, 10, 11, 12, 13, 14, 15, 16, 17, 18] (hK18 (l4i) (FI 139 ((FI 121 29) - ((1 : Int32))).toInt.toNat) (FI 140 ((FI 121 29) - ((1 : Int32))).toInt.toNat) (FI 141 ((FI 121 29) - ((1 : Int32))).toInt.toNat) (l8i) (l9i) (l10i) (l11i) (l12l) (l14l) (l16i) (l17l) (l19l) (l21i) (l22l) n sl SH (h_up (h_up FI 142 (l4i).toInt.toNat ((FI 142 (l4i).toInt.toNat) - ((1 : Int32)))) 121 29 ((FI 121 29) - ((1 : Int32)))) FL FR hok) ⟨rfl, rfl, rfl, rfl, rfl, rfl, rfl, rfl, rfl, rfl, rfl, rfl, rfl, rfl, rfl, rfl, rfl, rfl, rfl, trivial⟩
    · skip
      exact pw_Li (L2 := [(0, .ref (base + 121)), (1, .int (a1)), (2, .int (a2)), (3, .int (a3)), (4, .int (l4i)), (5, .int (l5i)), (6, .int (l6i)), (7, .int (l7i)), (8, .int (l8i)), (9, .int (l9i)), (10, .int (l10i)), (11, .int (l11i)), (12, .long (l12l)), (14, .long (l14l)), (16, .int (l16i)), (17, .long (l17l)), (19, .long (l19l)), (21, .int (l21i)), (22, .long (l22l))]) [0, 1, 2, 3, 4, 5, 6, 7, 8, 9, 10, 11, 12, 13, 14, 15, 16, 17, 18] (rX12_exec_116 hkb a1 a2 a3 (l4i) (l5i) (l6i) (l7i) (l8i) (l9i) (l10i) (l11i) (l12l) (l14l) (l16i) (l17l) (l19l) (l21i) (l22l) n sl SH FI FL FR hok  hK18) ⟨rfl, rfl, rfl, rfl, rfl, rfl, rfl, rfl, rfl, rfl, rfl, rfl, rfl, rfl, rfl, rfl, rfl, rfl, rfl, trivial⟩
  · skip
    exact pw_Li (L2 := [(0, .ref (base + 121)), (1, .int (a1)), (2, .int (a2)), (3, .int (a3)), (4, .int (l4i)), (5, .int (l5i)), (6, .int (l6i)), (7, .int (l7i)), (8, .int (l8i)), (9, .int (l9i)), (10, .int (l10i)), (11, .int (l11i)), (12, .long (l12l)), (14, .long (l14l)), (16, .int (l16i)), (17, .long (l17l)), (19, .long (l19l)), (21, .int (l21i)), (22, .long (l22l))]) [0, 1, 2, 3, 4, 5, 6, 7, 8, 9, 10, 11, 12, 13, 14, 15, 16, 17, 18] (rX12_exec_116 hkb a1 a2 a3 (l4i) (l5i) (l6i) (l7i) (l8i) (l9i) (l10i) (l11i) (l12l) (l14l) (l16i) (l17l) (l19l) (l21i) (l22l) n sl SH FI FL FR hok  hK18) ⟨rfl, rfl, rfl, rfl, rfl, rfl, rfl, rfl, rfl, rfl, rfl, rfl, rfl, rfl, rfl, rfl, rfl, rfl, rfl, trivial⟩
theorem gX12_exec_18 {sk : xK} {base d : Nat}  (hkb : x_kb sk base) (a1 : Int32) (a2 : Int32) (a3 : Int32) (N : Nat) :  ∀ (l4i : Int32) (l5i : Int32) (l6i : Int32) (l7i : Int32) (l8i : Int32) (l9i : Int32) (l10i : Int32) (l11i : Int32) (l12l : Int64) (l14l : Int64) (l16i : Int32) (l17l : Int64) (l19l : Int64) (l21i : Int32) (l22l : Int64) (n sl : Nat) (SH : Nat → Nat × Nat) (FI : Nat → Nat → Int32) (FL : Nat → Nat → Int64) (FR : Nat → Nat → Option Nat), pk n SH FR → pw pj_I sk base N d none 181 18 [(0, .ref (base + 121)), (1, .int (a1)), (2, .int (a2)), (3, .int (a3)), (4, .int (l4i)), (5, .int (l5i)), (6, .int (l6i)), (7, .int (l7i)), (8, .int (l8i)), (9, .int (l9i)), (10, .int (l10i)), (11, .int (l11i)), (12, .long (l12l)), (14, .long (l14l)), (16, .int (l16i)), (17, .long (l17l)), (19, .long (l19l)), (21, .int (l21i)), (22, .long (l22l))] [] (n, sl, SH, FI, FL, FR) (GX12_exec_18  a1 a2 a3 (N + 1) l4i l5i l6i l7i n sl SH FI FL FR) := by
  induction N with
  | zero => intros; exact pw_0
  | succ N ih => intro   l4i l5i l6i l7i l8i l9i l10i l11i l12l l14l l16i l17l l19l l21i l22l n sl SH FI FL FR hok; exact bX12_exec_18 hkb a1 a2 a3 l4i l5i l6i l7i l8i l9i l10i l11i l12l l14l l16i l17l l19l l21i l22l n sl SH FI FL FR hok  (ih  )
theorem rX12_exec_18 {sk : xK} {base N d : Nat}  (hkb : x_kb sk base) (a1 : Int32) (a2 : Int32) (a3 : Int32) (l4i : Int32) (l5i : Int32) (l6i : Int32) (l7i : Int32) (l8i : Int32) (l9i : Int32) (l10i : Int32) (l11i : Int32) (l12l : Int64) (l14l : Int64) (l16i : Int32) (l17l : Int64) (l19l : Int64) (l21i : Int32) (l22l : Int64) (n sl : Nat) (SH : Nat → Nat × Nat) (FI : Nat → Nat → Int32) (FL : Nat → Nat → Int64) (FR : Nat → Nat → Option Nat) (hok : pk n SH FR)   : pw pj_I sk base N d none 181 18 [(0, .ref (base + 121)), (1, .int (a1)), (2, .int (a2)), (3, .int (a3)), (4, .int (l4i)), (5, .int (l5i)), (6, .int (l6i)), (7, .int (l7i)), (8, .int (l8i)), (9, .int (l9i)), (10, .int (l10i)), (11, .int (l11i)), (12, .long (l12l)), (14, .long (l14l)), (16, .int (l16i)), (17, .long (l17l)), (19, .long (l19l)), (21, .int (l21i)), (22, .long (l22l))] [] (n, sl, SH, FI, FL, FR) (RX12_exec_18  a1 a2 a3 l4i l5i l6i l7i n sl SH FI FL FR) := pw_cons (gX12_exec_18 hkb a1 a2 a3 N   l4i l5i l6i l7i l8i l9i l10i l11i l12l l14l l16i l17l l19l l21i l22l n sl SH FI FL FR hok) (fun _ _ h => ⟨_, h⟩)
set_option maxHeartbeats 4000000 in
set_option maxRecDepth 100000 in
theorem rX12_exec {sk : xK} {base N d : Nat} (hkb : x_kb sk base) (a1 : Int32) (a2 : Int32) (a3 : Int32) (n sl : Nat) (SH : Nat → Nat × Nat) (FI : Nat → Nat → Int32) (FL : Nat → Nat → Int64) (FR : Nat → Nat → Option Nat) (hok : pk n SH FR)  : pw pj_I sk base N d none 181 0 [(0, .ref (base + 121)), (1, .int (a1)), (2, .int (a2)), (3, .int (a3))] [] (n, sl, SH, FI, FL, FR) (RX12_exec a1 a2 a3 n sl SH FI FL FR) := by
  unfold RX12_exec
  refine pw_iloadn (aX12_exec 0 rfl) rfl ?_
  refine pw_istore (L2 := [(4, .int (a1)), (0, .ref (base + 121)), (1, .int (a1)), (2, .int (a2)), (3, .int (a3))]) (aX12_exec 1 rfl) rfl ?_
  refine pw_aloadn (aX12_exec 2 rfl) rfl ?_
  refine pw_iload (aX12_exec 3 rfl) rfl ?_
  refine pw_callV (Bs := [.int (a1)]) (rest := []) (aX12_exec 4 rfl) um_RX12_261 ujX12_clears wc_RX12_261.2.2.2.2 (by decide) (by decide) rfl rfl (fun d => rX12_clears hkb (a1) n sl SH FI FL FR hok) (fun v0 n0 sl0 SH0 FI0 FL0 FR0 hok0 _ => ?_)
  show pw _ _ _ _ _ _ _ 9 _ [] _ _
  refine pw_iloadn (aX12_exec 5 rfl) rfl ?_
  refine pw_istore (L2 := [(5, .int (a2)), (4, .int (a1)), (0, .ref (base + 121)), (1, .int (a1)), (2, .int (a2)), (3, .int (a3))]) (aX12_exec 6 rfl) rfl ?_
  refine pw_iloadn (aX12_exec 7 rfl) rfl ?_
  refine pw_istore (L2 := [(6, .int (a2)), (5, .int (a2)), (4, .int (a1)), (0, .ref (base + 121)), (1, .int (a1)), (2, .int (a2)), (3, .int (a3))]) (aX12_exec 8 rfl) rfl ?_
  refine pw_iloadn (aX12_exec 9 rfl) rfl ?_
  refine pw_istore (L2 := [(7, .int (a3)), (6, .int (a2)), (5, .int (a2)), (4, .int (a1)), (0, .ref (base + 121)), (1, .int (a1)), (2, .int (a2)), (3, .int (a3))]) (aX12_exec 10 rfl) rfl ?_
  exact pw_Li (L2 := [(0, .ref (base + 121)), (1, .int (a1)), (2, .int (a2)), (3, .int (a3)), (4, .int (a1)), (5, .int (a2)), (6, .int (a2)), (7, .int (a3)), (8, .int 0), (9, .int 0), (10, .int 0), (11, .int 0), (12, .long 0), (14, .long 0), (16, .int 0), (17, .long 0), (19, .long 0), (21, .int 0), (22, .long 0)]) [7, 6, 5, 4, 0, 1, 2, 3] (rX12_exec_18 hkb a1 a2 a3 (a1) (a2) (a2) (a3) 0 0 0 0 0 0 0 0 0 0 0 n0 sl0 SH0 FI0 FL0 FR0 hok0  ) ⟨rfl, rfl, rfl, rfl, rfl, rfl, rfl, rfl, trivial⟩
set_option maxHeartbeats 4000000 in
set_option maxRecDepth 100000 in
theorem bX12_part_57 {sk : xK} {base N d : Nat} {K57 : Int32 → Nat → Nat → (Nat → Nat × Nat) → (Nat → Nat → Int32) → (Nat → Nat → Int64) → (Nat → Nat → Option Nat) → Unit → hS → Prop} (hkb : x_kb sk base) (a1 : Int32) (a2 : Int32) (a3 : Int64) (a4 : Int32) (a5 : Int32) (a6 : Int32) (l8i : Int32)  (n sl : Nat) (SH : Nat → Nat × Nat) (FI : Nat → Nat → Int32) (FL : Nat → Nat → Int64) (FR : Nat → Nat → Option Nat) (hok : pk n SH FR)  (hK57 : ∀ (l8i : Int32) (n sl : Nat) (SH : Nat → Nat × Nat) (FI : Nat → Nat → Int32) (FL : Nat → Nat → Int64) (FR : Nat → Nat → Option Nat), pk n SH FR → pw pj_V sk base N d none 186 57 [(0, .ref (base + 121)), (1, .int (a1)), (2, .int (a2)), (3, .long (a3)), (5, .int (a4)), (6, .int (a5)), (7, .int (a6)), (8, .int (l8i))] [] (n, sl, SH, FI, FL, FR) (K57 l8i n sl SH FI FL FR)) : pw pj_V sk base (N + 1) d none 186 57 [(0, .ref (base + 121)), (1, .int (a1)), (2, .int (a2)), (3, .long (a3)), (5, .int (a4)), (6, .int (a5)), (7, .int (a6)), (8, .int (l8i))] [] (n, sl, SH, FI, FL, FR) (BX12_part_57 K57 a1 a2 a3 a4 a5 a6 l8i n sl SH FI FL FR) := by
  unfold BX12_part_57
  refine pd_iload (aX12_part 35 rfl) rfl ?_
  refine pw_iload (aX12_part 36 rfl) rfl ?_
  refine pw_icge (tgt := 93) (aX12_part 37 rfl) (by decide) (fun b0 => ?_) (fun b0 => ?_)
  · skip
    refine pw_aloadn (aX12_part 38 rfl) rfl ?_
    refine pw_getr (v := .ref (base + 147)) (aX12_part 39 rfl) uf_RX12_96 un_RX12_96 (congrArg (fun r => va_rf (h_rf base r)) (q121_52 (hok).2.1)) ?_
    refine pw_sipush (v := (600 : Int32)) (aX12_part 40 rfl) rfl ?_
    refine pw_iloadn (aX12_part 41 rfl) rfl ?_
    refine pw_imul (aX12_part 42 rfl) ?_
    refine pw_iload (aX12_part 43 rfl) rfl ?_
    refine pw_iadd (aX12_part 44 rfl) ?_
    refine pw_aloadn (aX12_part 45 rfl) rfl ?_
    refine pw_getr (v := .ref (base + 124)) (aX12_part 46 rfl) uf_RX12_17 un_RX12_17 (congrArg (fun r => va_rf (h_rf base r)) (q121_3 (hok).2.1)) ?_
    refine pw_lloadn (aX12_part 47 rfl) rfl ?_
    refine pw_l2i (aX12_part 48 rfl) ?_
    refine pw_iload (aX12_part 49 rfl) rfl ?_
    refine pw_iadd (aX12_part 50 rfl) ?_
    refine pw_ialdr (c := 124) (ix := (((a3).toInt32) + (l8i)).toInt.toNat) (aX12_part 51 rfl) rfl (fun _ => ?_)
    refine pw_iastr (c := 147) (ix := ((((600 : Int32)) * (a1)) + (l8i)).toInt.toNat) (aX12_part 52 rfl) rfl (fun _ => ?_)
    refine pw_iinc (v := (l8i) + (1 : Int32)) (L2 := [(8, .int ((l8i) + (1 : Int32))), (0, .ref (base + 121)), (1, .int (a1)), (2, .int (a2)), (3, .long (a3)), (5, .int (a4)), (6, .int (a5)), (7, .int (a6))]) (aX12_part 53 rfl) rfl rfl rfl ?_
    refine pw_goto (tgt := 57) (aX12_part 54 rfl) (by decide) ?_
    exact pw_Li (L2 := [(0, .ref (base + 121)), (1, .int (a1)), (2, .int (a2)), (3, .long (a3)), (5, .int (a4)), (6, .int (a5)), (7, .int (a6)), (8, .int ((l8i) + (1 : Int32)))]) [7, 0, 1, 2, 3, 4, 5, 6] (hK57 ((l8i) + (1 : Int32)) n sl SH (h_up FI 147 ((((600 : Int32)) * (a1)) + (l8i)).toInt.toNat (FI 124 (((a3).toInt32) + (l8i)).toInt.toNat)) FL FR hok) ⟨rfl, rfl, rfl, rfl, rfl, rfl, rfl, rfl, trivial⟩
  · skip
    exact pw_vret (aX12_part 55 rfl) hok
theorem gX12_part_57 {sk : xK} {base d : Nat}  (hkb : x_kb sk base) (a1 : Int32) (a2 : Int32) (a3 : Int64) (a4 : Int32) (a5 : Int32) (a6 : Int32) (N : Nat) :  ∀ (l8i : Int32)  (n sl : Nat) (SH : Nat → Nat × Nat) (FI : Nat → Nat → Int32) (FL : Nat → Nat → Int64) (FR : Nat → Nat → Option Nat), pk n SH FR → pw pj_V sk base N d none 186 57 [(0, .ref (base + 121)), (1, .int (a1)), (2, .int (a2)), (3, .long (a3)), (5, .int (a4)), (6, .int (a5)), (7, .int (a6)), (8, .int (l8i))] [] (n, sl, SH, FI, FL, FR) (GX12_part_57  a1 a2 a3 a4 a5 a6 (N + 1) l8i n sl SH FI FL FR) := by
  induction N with
  | zero => intros; exact pw_0
  | succ N ih => intro   l8i  n sl SH FI FL FR hok; exact bX12_part_57 hkb a1 a2 a3 a4 a5 a6 l8i  n sl SH FI FL FR hok  (ih  )
theorem rX12_part_57 {sk : xK} {base N d : Nat}  (hkb : x_kb sk base) (a1 : Int32) (a2 : Int32) (a3 : Int64) (a4 : Int32) (a5 : Int32) (a6 : Int32) (l8i : Int32)  (n sl : Nat) (SH : Nat → Nat × Nat) (FI : Nat → Nat → Int32) (FL : Nat → Nat → Int64) (FR : Nat → Nat → Option Nat) (hok : pk n SH FR)   : pw pj_V sk base N d none 186 57 [(0, .ref (base + 121)), (1, .int (a1)), (2, .int (a2)), (3, .long (a3)), (5, .int (a4)), (6, .int (a5)), (7, .int (a6)), (8, .int (l8i))] [] (n, sl, SH, FI, FL, FR) (RX12_part_57  a1 a2 a3 a4 a5 a6 l8i n sl SH FI FL FR) := pw_cons (gX12_part_57 hkb a1 a2 a3 a4 a5 a6 N   l8i  n sl SH FI FL FR hok) (fun _ _ h => ⟨_, h⟩)
set_option maxHeartbeats 4000000 in
set_option maxRecDepth 100000 in
theorem rX12_part_32 {sk : xK} {base N d : Nat}  (hkb : x_kb sk base) (a1 : Int32) (a2 : Int32) (a3 : Int64) (a4 : Int32) (a5 : Int32) (a6 : Int32) (s0l : Int64) (s1i : Int32)  (n sl : Nat) (SH : Nat → Nat × Nat) (FI : Nat → Nat → Int32) (FL : Nat → Nat → Int64) (FR : Nat → Nat → Option Nat) (hok : pk n SH FR)   : pw pj_V sk base N d none 186 32 [(0, .ref (base + 121)), (1, .int (a1)), (2, .int (a2)), (3, .long (a3)), (5, .int (a4)), (6, .int (a5)), (7, .int (a6))] [.long (s0l), .int (s1i), .ref (base + 144)] (n, sl, SH, FI, FL, FR) (RX12_part_32  a1 a2 a3 a4 a5 a6 s0l s1i n sl SH FI FL FR) := by
  unfold RX12_part_32
  refine pw_lastr (c := 144) (ix := (s1i).toInt.toNat) (aX12_part 19 rfl) rfl (fun _ => ?_)
  refine pw_aloadn (aX12_part 20 rfl) rfl ?_
  refine pw_getr (v := .ref (base + 145)) (aX12_part 21 rfl) uf_RX12_90 un_RX12_90 (congrArg (fun r => va_rf (h_rf base r)) (q121_50 (hok).2.1)) ?_
  refine pw_iloadn (aX12_part 22 rfl) rfl ?_
  refine pw_iload (aX12_part 23 rfl) rfl ?_
  refine pw_iastr (c := 145) (ix := (a1).toInt.toNat) (aX12_part 24 rfl) rfl (fun _ => ?_)
  refine pw_aloadn (aX12_part 25 rfl) rfl ?_
  refine pw_getr (v := .ref (base + 146)) (aX12_part 26 rfl) uf_RX12_93 un_RX12_93 (congrArg (fun r => va_rf (h_rf base r)) (q121_51 (hok).2.1)) ?_
  refine pw_iloadn (aX12_part 27 rfl) rfl ?_
  refine pw_iload (aX12_part 28 rfl) rfl ?_
  refine pw_iastr (c := 146) (ix := (a1).toInt.toNat) (aX12_part 29 rfl) rfl (fun _ => ?_)
  refine pw_iloadn (aX12_part 30 rfl) rfl ?_
  refine pw_iconst (v := (4 : Int32)) (aX12_part 31 rfl) rfl ?_
  refine pw_icne (tgt := 93) (aX12_part 32 rfl) (by decide) (fun b0 => ?_) (fun b0 => ?_)
  · skip
    refine pw_iconst (v := (0 : Int32)) (aX12_part 33 rfl) rfl ?_
    refine pw_istore (L2 := [(8, .int ((0 : Int32))), (0, .ref (base + 121)), (1, .int (a1)), (2, .int (a2)), (3, .long (a3)), (5, .int (a4)), (6, .int (a5)), (7, .int (a6))]) (aX12_part 34 rfl) rfl ?_
    exact pw_Li (L2 := [(0, .ref (base + 121)), (1, .int (a1)), (2, .int (a2)), (3, .long (a3)), (5, .int (a4)), (6, .int (a5)), (7, .int (a6)), (8, .int ((0 : Int32)))]) [7, 0, 1, 2, 3, 4, 5, 6] (rX12_part_57 hkb a1 a2 a3 a4 a5 a6 ((0 : Int32)) n sl SH (h_up (h_up FI 145 (a1).toInt.toNat (a4)) 146 (a1).toInt.toNat (a5)) (h_up FL 144 (s1i).toInt.toNat (s0l)) FR hok  ) ⟨rfl, rfl, rfl, rfl, rfl, rfl, rfl, rfl, trivial⟩
  · skip
    exact pw_vret (aX12_part 55 rfl) hok
set_option maxHeartbeats 4000000 in
set_option maxRecDepth 100000 in
theorem rX12_part {sk : xK} {base N d : Nat} (hkb : x_kb sk base) (a1 : Int32) (a2 : Int32) (a3 : Int64) (a4 : Int32) (a5 : Int32) (a6 : Int32) (n sl : Nat) (SH : Nat → Nat × Nat) (FI : Nat → Nat → Int32) (FL : Nat → Nat → Int64) (FR : Nat → Nat → Option Nat) (hok : pk n SH FR)  : pw pj_V sk base N d none 186 0 [(0, .ref (base + 121)), (1, .int (a1)), (2, .int (a2)), (3, .long (a3)), (5, .int (a4)), (6, .int (a5)), (7, .int (a6))] [] (n, sl, SH, FI, FL, FR) (RX12_part a1 a2 a3 a4 a5 a6 n sl SH FI FL FR) := by
  unfold RX12_part
  refine pw_aloadn (aX12_part 0 rfl) rfl ?_
  refine pw_getr (v := .ref (base + 143)) (aX12_part 1 rfl) uf_RX12_84 un_RX12_84 (congrArg (fun r => va_rf (h_rf base r)) (q121_48 (hok).2.1)) ?_
  refine pw_iloadn (aX12_part 2 rfl) rfl ?_
  refine pw_iloadn (aX12_part 3 rfl) rfl ?_
  refine pw_iastr (c := 143) (ix := (a1).toInt.toNat) (aX12_part 4 rfl) rfl (fun _ => ?_)
  refine pw_aloadn (aX12_part 5 rfl) rfl ?_
  refine pw_getr (v := .ref (base + 144)) (aX12_part 6 rfl) uf_RX12_87 un_RX12_87 (congrArg (fun r => va_rf (h_rf base r)) (q121_49 (hok).2.1)) ?_
  refine pw_iloadn (aX12_part 7 rfl) rfl ?_
  refine pw_iloadn (aX12_part 8 rfl) rfl ?_
  refine pw_iconst (v := (4 : Int32)) (aX12_part 9 rfl) rfl ?_
  refine pw_icne (tgt := 23) (aX12_part 10 rfl) (by decide) (fun b0 => ?_) (fun b0 => ?_)
  · skip
    refine pw_iload (aX12_part 11 rfl) rfl ?_
    refine pw_i2l (aX12_part 12 rfl) ?_
    refine pw_goto (tgt := 32) (aX12_part 13 rfl) (by decide) ?_
    exact pw_Li (L2 := [(0, .ref (base + 121)), (1, .int (a1)), (2, .int (a2)), (3, .long (a3)), (5, .int (a4)), (6, .int (a5)), (7, .int (a6))]) [0, 1, 2, 3, 4, 5, 6] (rX12_part_32 hkb a1 a2 a3 a4 a5 a6 ((a6).toInt64) (a1) n sl SH (h_up FI 143 (a1).toInt.toNat (a2)) FL FR hok  ) ⟨rfl, rfl, rfl, rfl, rfl, rfl, rfl, trivial⟩
  · skip
    refine pw_iloadn (aX12_part 14 rfl) rfl ?_
    refine pw_ifne (tgt := 31) (aX12_part 15 rfl) (by decide) (fun b1 => ?_) (fun b1 => ?_)
    · skip
      refine pw_lconst (v := (0 : Int64)) (aX12_part 16 rfl) rfl ?_
      refine pw_goto (tgt := 32) (aX12_part 17 rfl) (by decide) ?_
      exact pw_Li (L2 := [(0, .ref (base + 121)), (1, .int (a1)), (2, .int (a2)), (3, .long (a3)), (5, .int (a4)), (6, .int (a5)), (7, .int (a6))]) [0, 1, 2, 3, 4, 5, 6] (rX12_part_32 hkb a1 a2 a3 a4 a5 a6 ((0 : Int64)) (a1) n sl SH (h_up FI 143 (a1).toInt.toNat (a2)) FL FR hok  ) ⟨rfl, rfl, rfl, rfl, rfl, rfl, rfl, trivial⟩
    · skip
      refine pw_lloadn (aX12_part 18 rfl) rfl ?_
      exact pw_Li (L2 := [(0, .ref (base + 121)), (1, .int (a1)), (2, .int (a2)), (3, .long (a3)), (5, .int (a4)), (6, .int (a5)), (7, .int (a6))]) [0, 1, 2, 3, 4, 5, 6] (rX12_part_32 hkb a1 a2 a3 a4 a5 a6 (a3) (a1) n sl SH (h_up FI 143 (a1).toInt.toNat (a2)) FL FR hok  ) ⟨rfl, rfl, rfl, rfl, rfl, rfl, rfl, trivial⟩
set_option maxHeartbeats 4000000 in
set_option maxRecDepth 100000 in
theorem rX12_empty {sk : xK} {base N d : Nat} (hkb : x_kb sk base)  (n sl : Nat) (SH : Nat → Nat × Nat) (FI : Nat → Nat → Int32) (FL : Nat → Nat → Int64) (FR : Nat → Nat → Option Nat) (hok : pk n SH FR)  : pw pj_V sk base N d none 187 0 [(0, .ref (base + 121))] [] (n, sl, SH, FI, FL, FR) (RX12_empty  n sl SH FI FL FR) := by
  unfold RX12_empty
  refine pw_aloadn (aX12_empty 0 rfl) rfl ?_
  refine pw_iconst (v := (1 : Int32)) (aX12_empty 1 rfl) rfl ?_
  refine pw_putri (aX12_empty 2 rfl) uf_RX12_81 (fun _ _ _ => rfl) (fun t1 => ?_)
  refine pw_aloadn (aX12_empty 3 rfl) rfl ?_
  refine pw_iconst (v := (0 : Int32)) (aX12_empty 4 rfl) rfl ?_
  refine pw_putri (aX12_empty 5 rfl) uf_RX12_354 (fun _ _ _ => rfl) (fun t2 => ?_)
  refine pw_aloadn (aX12_empty 6 rfl) rfl ?_
  refine pw_iconst (v := (0 : Int32)) (aX12_empty 7 rfl) rfl ?_
  refine pw_iconst (v := (0 : Int32)) (aX12_empty 8 rfl) rfl ?_
  refine pw_lconst (v := (0 : Int64)) (aX12_empty 9 rfl) rfl ?_
  refine pw_iconst (v := (0 : Int32)) (aX12_empty 10 rfl) rfl ?_
  refine pw_iconst (v := (0 : Int32)) (aX12_empty 11 rfl) rfl ?_
  refine pw_iconst (v := (0 : Int32)) (aX12_empty 12 rfl) rfl ?_
  refine pw_callV (Bs := [.int ((0 : Int32)), .int ((0 : Int32)), .long ((0 : Int64)), .int ((0 : Int32)), .int ((0 : Int32)), .int ((0 : Int32))]) (rest := []) (aX12_empty 13 rfl) um_RX12_357 ujX12_part wc_RX12_357.2.2.2.2 (by decide) (by decide) rfl rfl (fun d => rX12_part hkb ((0 : Int32)) ((0 : Int32)) ((0 : Int64)) ((0 : Int32)) ((0 : Int32)) ((0 : Int32)) n sl SH (h_up (h_up FI 121 46 ((1 : Int32))) 121 47 ((0 : Int32))) FL FR hok) (fun v2 n2 sl2 SH2 FI2 FL2 FR2 hok2 _ => ?_)
  show pw _ _ _ _ _ _ _ 20 _ [] _ _
  exact pw_vret (aX12_empty 14 rfl) hok2
set_option maxHeartbeats 4000000 in
set_option maxRecDepth 100000 in
theorem rX12_begins {sk : xK} {base N d : Nat} (hkb : x_kb sk base) (a1 : Int32) (n sl : Nat) (SH : Nat → Nat × Nat) (FI : Nat → Nat → Int32) (FL : Nat → Nat → Int64) (FR : Nat → Nat → Option Nat) (hok : pk n SH FR)  : pw pj_V sk base N d none 189 0 [(0, .ref (base + 121)), (1, .int (a1))] [] (n, sl, SH, FI, FL, FR) (RX12_begins a1 n sl SH FI FL FR) := by
  unfold RX12_begins
  refine pw_aloadn (aX12_begins 0 rfl) rfl ?_
  refine pw_iloadn (aX12_begins 1 rfl) rfl ?_
  refine pw_putri (aX12_begins 2 rfl) uf_RX12_296 (fun _ _ _ => rfl) (fun t1 => ?_)
  refine pw_aloadn (aX12_begins 3 rfl) rfl ?_
  refine pw_iconst (v := (0 : Int32)) (aX12_begins 4 rfl) rfl ?_
  refine pw_putri (aX12_begins 5 rfl) uf_RX12_299 (fun _ _ _ => rfl) (fun t2 => ?_)
  refine pw_aloadn (aX12_begins 6 rfl) rfl ?_
  refine pw_iconst (v := (0 : Int32)) (aX12_begins 7 rfl) rfl ?_
  refine pw_putri (aX12_begins 8 rfl) uf_RX12_258 (fun _ _ _ => rfl) (fun t3 => ?_)
  refine pw_aloadn (aX12_begins 9 rfl) rfl ?_
  refine pw_iconst (v := (0 : Int32)) (aX12_begins 10 rfl) rfl ?_
  refine pw_putri (aX12_begins 11 rfl) uf_RX12_264 (fun _ _ _ => rfl) (fun t4 => ?_)
  refine pw_aloadn (aX12_begins 12 rfl) rfl ?_
  refine pw_iconst (v := (-1 : Int32)) (aX12_begins 13 rfl) rfl ?_
  refine pw_putri (aX12_begins 14 rfl) uf_RX12_267 (fun _ _ _ => rfl) (fun t5 => ?_)
  exact pw_vret (aX12_begins 15 rfl) hok
set_option maxHeartbeats 4000000 in
set_option maxRecDepth 100000 in
theorem bX12_runs_59 {sk : xK} {base N d : Nat} {K59 : Int32 → Nat → Nat → (Nat → Nat × Nat) → (Nat → Nat → Int32) → (Nat → Nat → Int64) → (Nat → Nat → Option Nat) → Int32 → hS → Prop} (hkb : x_kb sk base) (a1 : Int32) (a2 : Int32) (a3 : Int32) (l5i : Int32) (l4i : Int32) (n sl : Nat) (SH : Nat → Nat × Nat) (FI : Nat → Nat → Int32) (FL : Nat → Nat → Int64) (FR : Nat → Nat → Option Nat) (hok : pk n SH FR)  (hK59 : ∀ (l5i : Int32) (l4i : Int32) (n sl : Nat) (SH : Nat → Nat × Nat) (FI : Nat → Nat → Int32) (FL : Nat → Nat → Int64) (FR : Nat → Nat → Option Nat), pk n SH FR → pw pj_I sk base N d none 190 59 [(0, .ref (base + 121)), (1, .int (a1)), (2, .int (a2)), (3, .int (a3)), (4, .int (l4i)), (5, .int (l5i))] [] (n, sl, SH, FI, FL, FR) (K59 l5i n sl SH FI FL FR)) : pw pj_I sk base (N + 1) d none 190 59 [(0, .ref (base + 121)), (1, .int (a1)), (2, .int (a2)), (3, .int (a3)), (4, .int (l4i)), (5, .int (l5i))] [] (n, sl, SH, FI, FL, FR) (BX12_runs_59 K59 a1 a2 a3 l5i n sl SH FI FL FR) := by
  unfold BX12_runs_59
  refine pd_iload (aX12_runs 35 rfl) rfl ?_
  refine pw_aloadn (aX12_runs 36 rfl) rfl ?_
  refine pw_getr (v := .int (FI 121 46)) (aX12_runs 37 rfl) uf_RX12_81 un_RX12_81 rfl ?_
  refine pw_icge (tgt := 115) (aX12_runs 38 rfl) (by decide) (fun b0 => ?_) (fun b0 => ?_)
  · skip
    refine pw_aloadn (aX12_runs 39 rfl) rfl ?_
    refine pw_iload (aX12_runs 40 rfl) rfl ?_
    refine pw_aloadn (aX12_runs 41 rfl) rfl ?_
    refine pw_getr (v := .ref (base + 130)) (aX12_runs 42 rfl) uf_RX12_42 un_RX12_42 (congrArg (fun r => va_rf (h_rf base r)) (q121_17 (hok).2.1)) ?_
    refine pw_iload (aX12_runs 43 rfl) rfl ?_
    refine pw_ialdr (c := 130) (ix := (l5i).toInt.toNat) (aX12_runs 44 rfl) rfl (fun _ => ?_)
    refine pw_aloadn (aX12_runs 45 rfl) rfl ?_
    refine pw_getr (v := .ref (base + 131)) (aX12_runs 46 rfl) uf_RX12_45 un_RX12_45 (congrArg (fun r => va_rf (h_rf base r)) (q121_18 (hok).2.1)) ?_
    refine pw_iload (aX12_runs 47 rfl) rfl ?_
    refine pw_laldr (c := 131) (ix := (l5i).toInt.toNat) (aX12_runs 48 rfl) rfl (fun _ => ?_)
    refine pw_aloadn (aX12_runs 49 rfl) rfl ?_
    refine pw_getr (v := .ref (base + 132)) (aX12_runs 50 rfl) uf_RX12_48 un_RX12_48 (congrArg (fun r => va_rf (h_rf base r)) (q121_19 (hok).2.1)) ?_
    refine pw_iload (aX12_runs 51 rfl) rfl ?_
    refine pw_ialdr (c := 132) (ix := (l5i).toInt.toNat) (aX12_runs 52 rfl) rfl (fun _ => ?_)
    refine pw_aloadn (aX12_runs 53 rfl) rfl ?_
    refine pw_getr (v := .ref (base + 133)) (aX12_runs 54 rfl) uf_RX12_51 un_RX12_51 (congrArg (fun r => va_rf (h_rf base r)) (q121_20 (hok).2.1)) ?_
    refine pw_iload (aX12_runs 55 rfl) rfl ?_
    refine pw_ialdr (c := 133) (ix := (l5i).toInt.toNat) (aX12_runs 56 rfl) rfl (fun _ => ?_)
    refine pw_aloadn (aX12_runs 57 rfl) rfl ?_
    refine pw_getr (v := .ref (base + 134)) (aX12_runs 58 rfl) uf_RX12_54 un_RX12_54 (congrArg (fun r => va_rf (h_rf base r)) (q121_21 (hok).2.1)) ?_
    refine pw_iload (aX12_runs 59 rfl) rfl ?_
    refine pw_ialdr (c := 134) (ix := (l5i).toInt.toNat) (aX12_runs 60 rfl) rfl (fun _ => ?_)
    refine pw_callV (Bs := [.int (l5i), .int (FI 130 (l5i).toInt.toNat), .long (FL 131 (l5i).toInt.toNat), .int (FI 132 (l5i).toInt.toNat), .int (FI 133 (l5i).toInt.toNat), .int (FI 134 (l5i).toInt.toNat)]) (rest := []) (aX12_runs 61 rfl) um_RX12_357 ujX12_part wc_RX12_357.2.2.2.2 (by decide) (by decide) rfl rfl (fun d => rX12_part hkb (l5i) (FI 130 (l5i).toInt.toNat) (FL 131 (l5i).toInt.toNat) (FI 132 (l5i).toInt.toNat) (FI 133 (l5i).toInt.toNat) (FI 134 (l5i).toInt.toNat) n sl SH FI FL FR hok) (fun v1 n1 sl1 SH1 FI1 FL1 FR1 hok1 _ => ?_)
    show pw _ _ _ _ _ _ _ 109 _ [] _ _
    refine pw_iinc (v := (l5i) + (1 : Int32)) (L2 := [(5, .int ((l5i) + (1 : Int32))), (0, .ref (base + 121)), (1, .int (a1)), (2, .int (a2)), (3, .int (a3)), (4, .int (l4i))]) (aX12_runs 62 rfl) rfl rfl rfl ?_
    refine pw_goto (tgt := 59) (aX12_runs 63 rfl) (by decide) ?_
    exact pw_Li (L2 := [(0, .ref (base + 121)), (1, .int (a1)), (2, .int (a2)), (3, .int (a3)), (4, .int (l4i)), (5, .int ((l5i) + (1 : Int32)))]) [5, 0, 1, 2, 3, 4] (hK59 ((l5i) + (1 : Int32)) (l4i) n1 sl1 SH1 FI1 FL1 FR1 hok1) ⟨rfl, rfl, rfl, rfl, rfl, rfl, trivial⟩
  · skip
    refine pw_goto (tgt := 190) (aX12_runs 64 rfl) (by decide) ?_
    refine pw_aloadn (aX12_runs 111 rfl) rfl ?_
    refine pw_iconst (v := (0 : Int32)) (aX12_runs 112 rfl) rfl ?_
    refine pw_iconst (v := (-1 : Int32)) (aX12_runs 113 rfl) rfl ?_
    refine pw_callV (Bs := [.int ((0 : Int32)), .int ((-1 : Int32))]) (rest := []) (aX12_runs 114 rfl) um_RX12_380 ujX12_tells wc_RX12_380.2.2.2.2 (by decide) (by decide) rfl rfl (fun d => rX12_tells hkb ((0 : Int32)) ((-1 : Int32)) n sl SH FI FL FR hok) (fun v2 n2 sl2 SH2 FI2 FL2 FR2 hok2 _ => ?_)
    show pw _ _ _ _ _ _ _ 196 _ [.int (v2)] _ _
    exact pw_iret (aX12_runs 115 rfl) hok2
theorem gX12_runs_59 {sk : xK} {base d : Nat}  (hkb : x_kb sk base) (a1 : Int32) (a2 : Int32) (a3 : Int32) (N : Nat) :  ∀ (l5i : Int32) (l4i : Int32) (n sl : Nat) (SH : Nat → Nat × Nat) (FI : Nat → Nat → Int32) (FL : Nat → Nat → Int64) (FR : Nat → Nat → Option Nat), pk n SH FR → pw pj_I sk base N d none 190 59 [(0, .ref (base + 121)), (1, .int (a1)), (2, .int (a2)), (3, .int (a3)), (4, .int (l4i)), (5, .int (l5i))] [] (n, sl, SH, FI, FL, FR) (GX12_runs_59  a1 a2 a3 (N + 1) l5i n sl SH FI FL FR) := by
  induction N with
  | zero => intros; exact pw_0
  | succ N ih => intro   l5i l4i n sl SH FI FL FR hok; exact bX12_runs_59 hkb a1 a2 a3 l5i l4i n sl SH FI FL FR hok  (ih  )
theorem rX12_runs_59 {sk : xK} {base N d : Nat}  (hkb : x_kb sk base) (a1 : Int32) (a2 : Int32) (a3 : Int32) (l5i : Int32) (l4i : Int32) (n sl : Nat) (SH : Nat → Nat × Nat) (FI : Nat → Nat → Int32) (FL : Nat → Nat → Int64) (FR : Nat → Nat → Option Nat) (hok : pk n SH FR)   : pw pj_I sk base N d none 190 59 [(0, .ref (base + 121)), (1, .int (a1)), (2, .int (a2)), (3, .int (a3)), (4, .int (l4i)), (5, .int (l5i))] [] (n, sl, SH, FI, FL, FR) (RX12_runs_59  a1 a2 a3 l5i n sl SH FI FL FR) := pw_cons (gX12_runs_59 hkb a1 a2 a3 N   l5i l4i n sl SH FI FL FR hok) (fun _ _ h => ⟨_, h⟩)
set_option maxHeartbeats 4000000 in
set_option maxRecDepth 100000 in
theorem rX12_runs {sk : xK} {base N d : Nat} (hkb : x_kb sk base) (a1 : Int32) (a2 : Int32) (a3 : Int32) (n sl : Nat) (SH : Nat → Nat × Nat) (FI : Nat → Nat → Int32) (FL : Nat → Nat → Int64) (FR : Nat → Nat → Option Nat) (hok : pk n SH FR)  : pw pj_I sk base N d none 190 0 [(0, .ref (base + 121)), (1, .int (a1)), (2, .int (a2)), (3, .int (a3))] [] (n, sl, SH, FI, FL, FR) (RX12_runs a1 a2 a3 n sl SH FI FL FR) := by
  unfold RX12_runs
  refine pw_aloadn (aX12_runs 0 rfl) rfl ?_
  refine pw_iloadn (aX12_runs 1 rfl) rfl ?_
  refine pw_callV (Bs := [.int (a3)]) (rest := []) (aX12_runs 2 rfl) um_RX12_373 ujX12_begins wc_RX12_373.2.2.2.2 (by decide) (by decide) rfl rfl (fun d => rX12_begins hkb (a3) n sl SH FI FL FR hok) (fun v0 n0 sl0 SH0 FI0 FL0 FR0 hok0 _ => ?_)
  show pw _ _ _ _ _ _ _ 5 _ [] _ _
  refine pw_aloadn (aX12_runs 3 rfl) rfl ?_
  refine pw_iconst (v := (0 : Int32)) (aX12_runs 4 rfl) rfl ?_
  refine pw_iloadn (aX12_runs 5 rfl) rfl ?_
  refine pw_iloadn (aX12_runs 6 rfl) rfl ?_
  refine pw_iloadn (aX12_runs 7 rfl) rfl ?_
  refine pw_iadd (aX12_runs 8 rfl) ?_
  refine pw_callV (Bs := [.int ((0 : Int32)), .int (a1), .int ((a1) + (a2))]) (rest := []) (aX12_runs 9 rfl) um_RX12_376 ujX12_exec wc_RX12_376.2.2.2.2 (by decide) (by decide) rfl rfl (fun d => rX12_exec hkb ((0 : Int32)) (a1) ((a1) + (a2)) n0 sl0 SH0 FI0 FL0 FR0 hok0) (fun v1 n1 sl1 SH1 FI1 FL1 FR1 hok1 _ => ?_)
  show pw _ _ _ _ _ _ _ 14 _ [.int (v1)] _ _
  refine pw_istore (L2 := [(4, .int (v1)), (0, .ref (base + 121)), (1, .int (a1)), (2, .int (a2)), (3, .int (a3))]) (aX12_runs 10 rfl) rfl ?_
  refine pw_iload (aX12_runs 11 rfl) rfl ?_
  refine pw_ifeq (tgt := 32) (aX12_runs 12 rfl) (by decide) (fun b2 => ?_) (fun b2 => ?_)
  · skip
    refine pw_aloadn (aX12_runs 19 rfl) rfl ?_
    refine pw_getr (v := .ref (base + 129)) (aX12_runs 20 rfl) uf_RX12_39 un_RX12_39 (congrArg (fun r => va_rf (h_rf base r)) (q121_16 (hok1).2.1)) ?_
    refine pw_iconst (v := (0 : Int32)) (aX12_runs 21 rfl) rfl ?_
    refine pw_ialdr (c := 129) (ix := 0) (aX12_runs 22 rfl) rfl (fun _ => ?_)
    refine pw_ifle (tgt := 118) (aX12_runs 23 rfl) (by decide) (fun b3 => ?_) (fun b3 => ?_)
    · skip
      refine pw_aloadn (aX12_runs 24 rfl) rfl ?_
      refine pw_aloadn (aX12_runs 25 rfl) rfl ?_
      refine pw_getr (v := .ref (base + 129)) (aX12_runs 26 rfl) uf_RX12_39 un_RX12_39 (congrArg (fun r => va_rf (h_rf base r)) (q121_16 (hok1).2.1)) ?_
      refine pw_iconst (v := (0 : Int32)) (aX12_runs 27 rfl) rfl ?_
      refine pw_ialdr (c := 129) (ix := 0) (aX12_runs 28 rfl) rfl (fun _ => ?_)
      refine pw_putri (aX12_runs 29 rfl) uf_RX12_81 (fun _ _ _ => rfl) (fun t5 => ?_)
      refine pw_aloadn (aX12_runs 30 rfl) rfl ?_
      refine pw_iconst (v := (1 : Int32)) (aX12_runs 31 rfl) rfl ?_
      refine pw_putri (aX12_runs 32 rfl) uf_RX12_354 (fun _ _ _ => rfl) (fun t6 => ?_)
      refine pw_iconst (v := (0 : Int32)) (aX12_runs 33 rfl) rfl ?_
      refine pw_istore (L2 := [(5, .int ((0 : Int32))), (4, .int (v1)), (0, .ref (base + 121)), (1, .int (a1)), (2, .int (a2)), (3, .int (a3))]) (aX12_runs 34 rfl) rfl ?_
      exact pw_Li (L2 := [(0, .ref (base + 121)), (1, .int (a1)), (2, .int (a2)), (3, .int (a3)), (4, .int (v1)), (5, .int ((0 : Int32)))]) [5, 4, 0, 1, 2, 3] (rX12_runs_59 hkb a1 a2 a3 ((0 : Int32)) (v1) n1 sl1 SH1 (h_up (h_up FI1 121 46 (FI1 129 0)) 121 47 ((1 : Int32))) FL1 FR1 hok1  ) ⟨rfl, rfl, rfl, rfl, rfl, rfl, trivial⟩
    · skip
      refine pw_aloadn (aX12_runs 65 rfl) rfl ?_
      refine pw_callV (Bs := []) (rest := []) (aX12_runs 66 rfl) um_RX12_383 ujX12_empty wc_RX12_383.2.2.2.2 (by decide) (by decide) rfl rfl (fun d => rX12_empty hkb  n1 sl1 SH1 FI1 FL1 FR1 hok1) (fun v6 n6 sl6 SH6 FI6 FL6 FR6 hok6 _ => ?_)
      show pw _ _ _ _ _ _ _ 122 _ [] _ _
      refine pw_aloadn (aX12_runs 67 rfl) rfl ?_
      refine pw_getr (v := .ref (base + 136)) (aX12_runs 68 rfl) uf_RX12_60 un_RX12_60 (congrArg (fun r => va_rf (h_rf base r)) (q121_23 (hok6).2.1)) ?_
      refine pw_iconst (v := (0 : Int32)) (aX12_runs 69 rfl) rfl ?_
      refine pw_ialdr (c := 136) (ix := 0) (aX12_runs 70 rfl) rfl (fun _ => ?_)
      refine pw_ifeq (tgt := 159) (aX12_runs 71 rfl) (by decide) (fun b7 => ?_) (fun b7 => ?_)
      · skip
        refine pw_aloadn (aX12_runs 90 rfl) rfl ?_
        refine pw_getr (v := .ref (base + 128)) (aX12_runs 91 rfl) uf_RX12_36 un_RX12_36 (congrArg (fun r => va_rf (h_rf base r)) (q121_15 (hok6).2.1)) ?_
        refine pw_iconst (v := (0 : Int32)) (aX12_runs 92 rfl) rfl ?_
        refine pw_ialdr (c := 128) (ix := 0) (aX12_runs 93 rfl) rfl (fun _ => ?_)
        refine pw_ifle (tgt := 190) (aX12_runs 94 rfl) (by decide) (fun b8 => ?_) (fun b8 => ?_)
        · skip
          refine pw_aloadn (aX12_runs 95 rfl) rfl ?_
          refine pw_iconst (v := (0 : Int32)) (aX12_runs 96 rfl) rfl ?_
          refine pw_iconst (v := (1 : Int32)) (aX12_runs 97 rfl) rfl ?_
          refine pw_aloadn (aX12_runs 98 rfl) rfl ?_
          refine pw_getr (v := .ref (base + 127)) (aX12_runs 99 rfl) uf_RX12_33 un_RX12_33 (congrArg (fun r => va_rf (h_rf base r)) (q121_14 (hok6).2.1)) ?_
          refine pw_aloadn (aX12_runs 100 rfl) rfl ?_
          refine pw_getr (v := .ref (base + 128)) (aX12_runs 101 rfl) uf_RX12_36 un_RX12_36 (congrArg (fun r => va_rf (h_rf base r)) (q121_15 (hok6).2.1)) ?_
          refine pw_iconst (v := (0 : Int32)) (aX12_runs 102 rfl) rfl ?_
          refine pw_ialdr (c := 128) (ix := 0) (aX12_runs 103 rfl) rfl (fun _ => ?_)
          refine pw_iconst (v := (1 : Int32)) (aX12_runs 104 rfl) rfl ?_
          refine pw_isub (aX12_runs 105 rfl) ?_
          refine pw_laldr (c := 127) (ix := ((FI6 128 0) - ((1 : Int32))).toInt.toNat) (aX12_runs 106 rfl) rfl (fun _ => ?_)
          refine pw_iconst (v := (0 : Int32)) (aX12_runs 107 rfl) rfl ?_
          refine pw_iconst (v := (0 : Int32)) (aX12_runs 108 rfl) rfl ?_
          refine pw_iconst (v := (0 : Int32)) (aX12_runs 109 rfl) rfl ?_
          refine pw_callV (Bs := [.int ((0 : Int32)), .int ((1 : Int32)), .long (FL6 127 ((FI6 128 0) - ((1 : Int32))).toInt.toNat), .int ((0 : Int32)), .int ((0 : Int32)), .int ((0 : Int32))]) (rest := []) (aX12_runs 110 rfl) um_RX12_357 ujX12_part wc_RX12_357.2.2.2.2 (by decide) (by decide) rfl rfl (fun d => rX12_part hkb ((0 : Int32)) ((1 : Int32)) (FL6 127 ((FI6 128 0) - ((1 : Int32))).toInt.toNat) ((0 : Int32)) ((0 : Int32)) ((0 : Int32)) n6 sl6 SH6 FI6 FL6 FR6 hok6) (fun v9 n9 sl9 SH9 FI9 FL9 FR9 hok9 _ => ?_)
          show pw _ _ _ _ _ _ _ 190 _ [] _ _
          refine pw_aloadn (aX12_runs 111 rfl) rfl ?_
          refine pw_iconst (v := (0 : Int32)) (aX12_runs 112 rfl) rfl ?_
          refine pw_iconst (v := (-1 : Int32)) (aX12_runs 113 rfl) rfl ?_
          refine pw_callV (Bs := [.int ((0 : Int32)), .int ((-1 : Int32))]) (rest := []) (aX12_runs 114 rfl) um_RX12_380 ujX12_tells wc_RX12_380.2.2.2.2 (by decide) (by decide) rfl rfl (fun d => rX12_tells hkb ((0 : Int32)) ((-1 : Int32)) n9 sl9 SH9 FI9 FL9 FR9 hok9) (fun v10 n10 sl10 SH10 FI10 FL10 FR10 hok10 _ => ?_)
          show pw _ _ _ _ _ _ _ 196 _ [.int (v10)] _ _
          exact pw_iret (aX12_runs 115 rfl) hok10
        · skip
          refine pw_aloadn (aX12_runs 111 rfl) rfl ?_
          refine pw_iconst (v := (0 : Int32)) (aX12_runs 112 rfl) rfl ?_
          refine pw_iconst (v := (-1 : Int32)) (aX12_runs 113 rfl) rfl ?_
          refine pw_callV (Bs := [.int ((0 : Int32)), .int ((-1 : Int32))]) (rest := []) (aX12_runs 114 rfl) um_RX12_380 ujX12_tells wc_RX12_380.2.2.2.2 (by decide) (by decide) rfl rfl (fun d => rX12_tells hkb ((0 : Int32)) ((-1 : Int32)) n6 sl6 SH6 FI6 FL6 FR6 hok6) (fun v11 n11 sl11 SH11 FI11 FL11 FR11 hok11 _ => ?_)
          show pw _ _ _ _ _ _ _ 196 _ [.int (v11)] _ _
          exact pw_iret (aX12_runs 115 rfl) hok11
      · skip
        refine pw_aloadn (aX12_runs 72 rfl) rfl ?_
        refine pw_iconst (v := (0 : Int32)) (aX12_runs 73 rfl) rfl ?_
        refine pw_aloadn (aX12_runs 74 rfl) rfl ?_
        refine pw_getr (v := .ref (base + 136)) (aX12_runs 75 rfl) uf_RX12_60 un_RX12_60 (congrArg (fun r => va_rf (h_rf base r)) (q121_23 (hok6).2.1)) ?_
        refine pw_iconst (v := (0 : Int32)) (aX12_runs 76 rfl) rfl ?_
        refine pw_ialdr (c := 136) (ix := 0) (aX12_runs 77 rfl) rfl (fun _ => ?_)
        refine pw_aloadn (aX12_runs 78 rfl) rfl ?_
        refine pw_getr (v := .ref (base + 137)) (aX12_runs 79 rfl) uf_RX12_63 un_RX12_63 (congrArg (fun r => va_rf (h_rf base r)) (q121_24 (hok6).2.1)) ?_
        refine pw_iconst (v := (0 : Int32)) (aX12_runs 80 rfl) rfl ?_
        refine pw_laldr (c := 137) (ix := 0) (aX12_runs 81 rfl) rfl (fun _ => ?_)
        refine pw_iconst (v := (0 : Int32)) (aX12_runs 82 rfl) rfl ?_
        refine pw_iconst (v := (0 : Int32)) (aX12_runs 83 rfl) rfl ?_
        refine pw_aloadn (aX12_runs 84 rfl) rfl ?_
        refine pw_getr (v := .ref (base + 138)) (aX12_runs 85 rfl) uf_RX12_66 un_RX12_66 (congrArg (fun r => va_rf (h_rf base r)) (q121_25 (hok6).2.1)) ?_
        refine pw_iconst (v := (0 : Int32)) (aX12_runs 86 rfl) rfl ?_
        refine pw_ialdr (c := 138) (ix := 0) (aX12_runs 87 rfl) rfl (fun _ => ?_)
        refine pw_callV (Bs := [.int ((0 : Int32)), .int (FI6 136 0), .long (FL6 137 0), .int ((0 : Int32)), .int ((0 : Int32)), .int (FI6 138 0)]) (rest := []) (aX12_runs 88 rfl) um_RX12_357 ujX12_part wc_RX12_357.2.2.2.2 (by decide) (by decide) rfl rfl (fun d => rX12_part hkb ((0 : Int32)) (FI6 136 0) (FL6 137 0) ((0 : Int32)) ((0 : Int32)) (FI6 138 0) n6 sl6 SH6 FI6 FL6 FR6 hok6) (fun v12 n12 sl12 SH12 FI12 FL12 FR12 hok12 _ => ?_)
        show pw _ _ _ _ _ _ _ 156 _ [] _ _
        refine pw_goto (tgt := 190) (aX12_runs 89 rfl) (by decide) ?_
        refine pw_aloadn (aX12_runs 111 rfl) rfl ?_
        refine pw_iconst (v := (0 : Int32)) (aX12_runs 112 rfl) rfl ?_
        refine pw_iconst (v := (-1 : Int32)) (aX12_runs 113 rfl) rfl ?_
        refine pw_callV (Bs := [.int ((0 : Int32)), .int ((-1 : Int32))]) (rest := []) (aX12_runs 114 rfl) um_RX12_380 ujX12_tells wc_RX12_380.2.2.2.2 (by decide) (by decide) rfl rfl (fun d => rX12_tells hkb ((0 : Int32)) ((-1 : Int32)) n12 sl12 SH12 FI12 FL12 FR12 hok12) (fun v13 n13 sl13 SH13 FI13 FL13 FR13 hok13 _ => ?_)
        show pw _ _ _ _ _ _ _ 196 _ [.int (v13)] _ _
        exact pw_iret (aX12_runs 115 rfl) hok13
  · skip
    refine pw_aloadn (aX12_runs 13 rfl) rfl ?_
    refine pw_iload (aX12_runs 14 rfl) rfl ?_
    refine pw_aloadn (aX12_runs 15 rfl) rfl ?_
    refine pw_getr (v := .int (FI1 121 34)) (aX12_runs 16 rfl) uf_RX12_255 un_RX12_255 rfl ?_
    refine pw_callV (Bs := [.int (v1), .int (FI1 121 34)]) (rest := []) (aX12_runs 17 rfl) um_RX12_380 ujX12_tells wc_RX12_380.2.2.2.2 (by decide) (by decide) rfl rfl (fun d => rX12_tells hkb (v1) (FI1 121 34) n1 sl1 SH1 FI1 FL1 FR1 hok1) (fun v14 n14 sl14 SH14 FI14 FL14 FR14 hok14 _ => ?_)
    show pw _ _ _ _ _ _ _ 31 _ [.int (v14)] _ _
    exact pw_iret (aX12_runs 18 rfl) hok14
set_option maxHeartbeats 4000000 in
set_option maxRecDepth 100000 in
theorem rX12_isFuel {sk : xK} {base N d : Nat} (hkb : x_kb sk base) (a1 : Int32) (n sl : Nat) (SH : Nat → Nat × Nat) (FI : Nat → Nat → Int32) (FL : Nat → Nat → Int64) (FR : Nat → Nat → Option Nat) (hok : pk n SH FR)  : pw pj_I sk base N d none 191 0 [(0, .ref (base + 121)), (1, .int (a1))] [] (n, sl, SH, FI, FL, FR) (P_ret (fX12_isFuel a1 SH FI FL FR) (n, sl, SH, FI, FL, FR)) := by
  unfold fX12_isFuel
  refine pw_iloadn (aX12_isFuel 0 rfl) rfl ?_
  refine pw_iconst (v := (1 : Int32)) (aX12_isFuel 1 rfl) rfl ?_
  refine pw_ite (pw_iclt (tgt := 16) (aX12_isFuel 2 rfl) (by decide) (fun b0 => ?_) (fun b0 => ?_))
  · skip
    refine pw_iconst (v := (0 : Int32)) (aX12_isFuel 8 rfl) rfl ?_
    exact pw_iret (aX12_isFuel 9 rfl) hok
  · skip
    refine pw_iloadn (aX12_isFuel 3 rfl) rfl ?_
    refine pw_sipush (v := (1000 : Int32)) (aX12_isFuel 4 rfl) rfl ?_
    refine pw_ite (pw_icgt (tgt := 16) (aX12_isFuel 5 rfl) (by decide) (fun b1 => ?_) (fun b1 => ?_))
    · skip
      refine pw_iconst (v := (0 : Int32)) (aX12_isFuel 8 rfl) rfl ?_
      exact pw_iret (aX12_isFuel 9 rfl) hok
    · skip
      refine pw_iconst (v := (1 : Int32)) (aX12_isFuel 6 rfl) rfl ?_
      refine pw_goto (tgt := 17) (aX12_isFuel 7 rfl) (by decide) ?_
      exact pw_iret (aX12_isFuel 9 rfl) hok
set_option maxHeartbeats 4000000 in
set_option maxRecDepth 100000 in
theorem rX12_run {sk : xK} {base N d : Nat} (hkb : x_kb sk base) (a1 : Int32) (a2 : Int32) (n sl : Nat) (SH : Nat → Nat × Nat) (FI : Nat → Nat → Int32) (FL : Nat → Nat → Int64) (FR : Nat → Nat → Option Nat) (hok : pk n SH FR)  : pw pj_I sk base N d none 192 0 [(0, .ref (base + 121)), (1, .int (a1)), (2, .int (a2))] [] (n, sl, SH, FI, FL, FR) (RX12_run a1 a2 n sl SH FI FL FR) := by
  unfold RX12_run
  refine pw_aloadn (aX12_run 0 rfl) rfl ?_
  refine pw_iconst (v := (0 : Int32)) (aX12_run 1 rfl) rfl ?_
  refine pw_putri (aX12_run 2 rfl) uf_RX12_187 (fun _ _ _ => rfl) (fun t1 => ?_)
  refine pw_iloadn (aX12_run 3 rfl) rfl ?_
  refine pw_iflt (tgt := 23) (aX12_run 4 rfl) (by decide) (fun b1 => ?_) (fun b1 => ?_)
  · skip
    refine pw_iconst (v := (-1 : Int32)) (aX12_run 12 rfl) rfl ?_
    exact pw_iret (aX12_run 13 rfl) hok
  · skip
    refine pw_iloadn (aX12_run 5 rfl) rfl ?_
    refine pw_bipush (v := (15 : Int32)) (aX12_run 6 rfl) rfl ?_
    refine pw_icgt (tgt := 23) (aX12_run 7 rfl) (by decide) (fun b2 => ?_) (fun b2 => ?_)
    · skip
      refine pw_iconst (v := (-1 : Int32)) (aX12_run 12 rfl) rfl ?_
      exact pw_iret (aX12_run 13 rfl) hok
    · skip
      refine pw_aloadn (aX12_run 8 rfl) rfl ?_
      refine pw_iloadn (aX12_run 9 rfl) rfl ?_
      refine pw_cf (pw_callV (Bs := [.int (a2)]) (rest := []) (aX12_run 10 rfl) um_RX12_386 ujX12_isFuel wc_RX12_386.2.2.2.2 (by decide) (by decide) rfl rfl (fun d => rX12_isFuel hkb (a2) n sl SH (h_up FI 121 0 ((0 : Int32))) FL FR hok) (fun v3 n3 sl3 SH3 FI3 FL3 FR3 _ hC => ?_))
      obtain ⟨rfl, hC⟩ := hC; cases hC
      show pw _ _ _ _ _ _ _ 20 _ [.int (fX12_isFuel (a2) SH (h_up FI 121 0 ((0 : Int32))) FL FR)] _ _
      refine pw_ifne (tgt := 25) (aX12_run 11 rfl) (by decide) (fun b4 => ?_) (fun b4 => ?_)
      · skip
        refine pw_iconst (v := (-1 : Int32)) (aX12_run 12 rfl) rfl ?_
        exact pw_iret (aX12_run 13 rfl) hok
      · skip
        refine pw_aloadn (aX12_run 14 rfl) rfl ?_
        refine pw_sipush (v := (600 : Int32)) (aX12_run 15 rfl) rfl ?_
        refine pw_iloadn (aX12_run 16 rfl) rfl ?_
        refine pw_imul (aX12_run 17 rfl) ?_
        refine pw_aloadn (aX12_run 18 rfl) rfl ?_
        refine pw_getr (v := .ref (base + 125)) (aX12_run 19 rfl) uf_RX12_20 un_RX12_20 (congrArg (fun r => va_rf (h_rf base r)) (q121_4 (hok).2.1)) ?_
        refine pw_iloadn (aX12_run 20 rfl) rfl ?_
        refine pw_ialdr (c := 125) (ix := (a1).toInt.toNat) (aX12_run 21 rfl) rfl (fun _ => ?_)
        refine pw_iloadn (aX12_run 22 rfl) rfl ?_
        refine pw_callV (Bs := [.int (((600 : Int32)) * (a1)), .int (FI 125 (a1).toInt.toNat), .int (a2)]) (rest := []) (aX12_run 23 rfl) um_RX12_389 ujX12_runs wc_RX12_389.2.2.2.2 (by decide) (by decide) rfl rfl (fun d => rX12_runs hkb (((600 : Int32)) * (a1)) (FI 125 (a1).toInt.toNat) (a2) n sl SH (h_up FI 121 0 ((0 : Int32))) FL FR hok) (fun v5 n5 sl5 SH5 FI5 FL5 FR5 hok5 _ => ?_)
        show pw _ _ _ _ _ _ _ 41 _ [.int (v5)] _ _
        exact pw_iret (aX12_run 24 rfl) hok5
set_option maxHeartbeats 4000000 in
set_option maxRecDepth 100000 in
theorem bX12_number_7 {sk : xK} {base N d : Nat} {K7 : Int64 → Int32 → Nat → Nat → (Nat → Nat × Nat) → (Nat → Nat → Int32) → (Nat → Nat → Int64) → (Nat → Nat → Option Nat) → Int64 → hS → Prop} (hkb : x_kb sk base) (a1 : Int32) (a2 : Int32) (l3l : Int64) (l5i : Int32)  (n sl : Nat) (SH : Nat → Nat × Nat) (FI : Nat → Nat → Int32) (FL : Nat → Nat → Int64) (FR : Nat → Nat → Option Nat) (hok : pk n SH FR)  (hK7 : ∀ (l3l : Int64) (l5i : Int32) (n sl : Nat) (SH : Nat → Nat × Nat) (FI : Nat → Nat → Int32) (FL : Nat → Nat → Int64) (FR : Nat → Nat → Option Nat), pk n SH FR → pw pj_J sk base N d none 193 7 [(0, .ref (base + 121)), (1, .int (a1)), (2, .int (a2)), (3, .long (l3l)), (5, .int (l5i))] [] (n, sl, SH, FI, FL, FR) (K7 l3l l5i n sl SH FI FL FR)) : pw pj_J sk base (N + 1) d none 193 7 [(0, .ref (base + 121)), (1, .int (a1)), (2, .int (a2)), (3, .long (l3l)), (5, .int (l5i))] [] (n, sl, SH, FI, FL, FR) (BX12_number_7 K7 a1 a2 l3l l5i n sl SH FI FL FR) := by
  unfold BX12_number_7
  refine pd_iload (aX12_number 6 rfl) rfl ?_
  refine pw_iflt (tgt := 34) (aX12_number 7 rfl) (by decide) (fun b0 => ?_) (fun b0 => ?_)
  · skip
    refine pw_lloadn (aX12_number 22 rfl) rfl ?_
    exact pw_lret (aX12_number 23 rfl) hok
  · skip
    refine pw_lloadn (aX12_number 8 rfl) rfl ?_
    refine pw_bipush (v := (8 : Int32)) (aX12_number 9 rfl) rfl ?_
    refine pw_lshl (aX12_number 10 rfl) ?_
    refine pw_aloadn (aX12_number 11 rfl) rfl ?_
    refine pw_getr (v := .ref (base + 124)) (aX12_number 12 rfl) uf_RX12_17 un_RX12_17 (congrArg (fun r => va_rf (h_rf base r)) (q121_3 (hok).2.1)) ?_
    refine pw_iloadn (aX12_number 13 rfl) rfl ?_
    refine pw_iload (aX12_number 14 rfl) rfl ?_
    refine pw_iadd (aX12_number 15 rfl) ?_
    refine pw_ialdr (c := 124) (ix := ((a1) + (l5i)).toInt.toNat) (aX12_number 16 rfl) rfl (fun _ => ?_)
    refine pw_i2l (aX12_number 17 rfl) ?_
    refine pw_lor (aX12_number 18 rfl) ?_
    refine pw_lstoren (L2 := [(3, .long (((l3l) <<< (((8 : Int32)).toInt64 &&& 63)) ||| ((FI 124 ((a1) + (l5i)).toInt.toNat).toInt64))), (0, .ref (base + 121)), (1, .int (a1)), (2, .int (a2)), (5, .int (l5i))]) (aX12_number 19 rfl) rfl ?_
    refine pw_iinc (v := (l5i) + (-1 : Int32)) (L2 := [(5, .int ((l5i) + (-1 : Int32))), (3, .long (((l3l) <<< (((8 : Int32)).toInt64 &&& 63)) ||| ((FI 124 ((a1) + (l5i)).toInt.toNat).toInt64))), (0, .ref (base + 121)), (1, .int (a1)), (2, .int (a2))]) (aX12_number 20 rfl) rfl rfl rfl ?_
    refine pw_goto (tgt := 7) (aX12_number 21 rfl) (by decide) ?_
    exact pw_Li (L2 := [(0, .ref (base + 121)), (1, .int (a1)), (2, .int (a2)), (3, .long (((l3l) <<< (((8 : Int32)).toInt64 &&& 63)) ||| ((FI 124 ((a1) + (l5i)).toInt.toNat).toInt64))), (5, .int ((l5i) + (-1 : Int32)))]) [4, 3, 0, 1, 2] (hK7 (((l3l) <<< (((8 : Int32)).toInt64 &&& 63)) ||| ((FI 124 ((a1) + (l5i)).toInt.toNat).toInt64)) ((l5i) + (-1 : Int32)) n sl SH FI FL FR hok) ⟨rfl, rfl, rfl, rfl, rfl, trivial⟩
theorem gX12_number_7 {sk : xK} {base d : Nat}  (hkb : x_kb sk base) (a1 : Int32) (a2 : Int32) (N : Nat) :  ∀ (l3l : Int64) (l5i : Int32)  (n sl : Nat) (SH : Nat → Nat × Nat) (FI : Nat → Nat → Int32) (FL : Nat → Nat → Int64) (FR : Nat → Nat → Option Nat), pk n SH FR → pw pj_J sk base N d none 193 7 [(0, .ref (base + 121)), (1, .int (a1)), (2, .int (a2)), (3, .long (l3l)), (5, .int (l5i))] [] (n, sl, SH, FI, FL, FR) (GX12_number_7  a1 a2 (N + 1) l3l l5i n sl SH FI FL FR) := by
  induction N with
  | zero => intros; exact pw_0
  | succ N ih => intro   l3l l5i  n sl SH FI FL FR hok; exact bX12_number_7 hkb a1 a2 l3l l5i  n sl SH FI FL FR hok  (ih  )
theorem rX12_number_7 {sk : xK} {base N d : Nat}  (hkb : x_kb sk base) (a1 : Int32) (a2 : Int32) (l3l : Int64) (l5i : Int32)  (n sl : Nat) (SH : Nat → Nat × Nat) (FI : Nat → Nat → Int32) (FL : Nat → Nat → Int64) (FR : Nat → Nat → Option Nat) (hok : pk n SH FR)   : pw pj_J sk base N d none 193 7 [(0, .ref (base + 121)), (1, .int (a1)), (2, .int (a2)), (3, .long (l3l)), (5, .int (l5i))] [] (n, sl, SH, FI, FL, FR) (RX12_number_7  a1 a2 l3l l5i n sl SH FI FL FR) := pw_cons (gX12_number_7 hkb a1 a2 N   l3l l5i  n sl SH FI FL FR hok) (fun _ _ h => ⟨_, h⟩)
set_option maxHeartbeats 4000000 in
set_option maxRecDepth 100000 in
theorem rX12_number {sk : xK} {base N d : Nat} (hkb : x_kb sk base) (a1 : Int32) (a2 : Int32) (n sl : Nat) (SH : Nat → Nat × Nat) (FI : Nat → Nat → Int32) (FL : Nat → Nat → Int64) (FR : Nat → Nat → Option Nat) (hok : pk n SH FR)  : pw pj_J sk base N d none 193 0 [(0, .ref (base + 121)), (1, .int (a1)), (2, .int (a2))] [] (n, sl, SH, FI, FL, FR) (RX12_number a1 a2 n sl SH FI FL FR) := by
  unfold RX12_number
  refine pw_lconst (v := (0 : Int64)) (aX12_number 0 rfl) rfl ?_
  refine pw_lstoren (L2 := [(3, .long ((0 : Int64))), (0, .ref (base + 121)), (1, .int (a1)), (2, .int (a2))]) (aX12_number 1 rfl) rfl ?_
  refine pw_iloadn (aX12_number 2 rfl) rfl ?_
  refine pw_iconst (v := (1 : Int32)) (aX12_number 3 rfl) rfl ?_
  refine pw_isub (aX12_number 4 rfl) ?_
  refine pw_istore (L2 := [(5, .int ((a2) - ((1 : Int32)))), (3, .long ((0 : Int64))), (0, .ref (base + 121)), (1, .int (a1)), (2, .int (a2))]) (aX12_number 5 rfl) rfl ?_
  exact pw_Li (L2 := [(0, .ref (base + 121)), (1, .int (a1)), (2, .int (a2)), (3, .long ((0 : Int64))), (5, .int ((a2) - ((1 : Int32))))]) [4, 3, 0, 1, 2] (rX12_number_7 hkb a1 a2 ((0 : Int64)) ((a2) - ((1 : Int32))) n sl SH FI FL FR hok  ) ⟨rfl, rfl, rfl, rfl, rfl, trivial⟩
set_option maxHeartbeats 4000000 in
set_option maxRecDepth 100000 in
theorem rX12_finds_210 {sk : xK} {base N d : Nat} {K12 : Int64 → Int32 → Nat → Nat → (Nat → Nat × Nat) → (Nat → Nat → Int32) → (Nat → Nat → Int64) → (Nat → Nat → Option Nat) → Int32 → hS → Prop} (hkb : x_kb sk base) (a1 : Int32) (a2 : Int32) (a3 : Int64) (a4 : Int64) (a5 : Int32) (l8l : Int64) (l10i : Int32) (l11l : Int64) (l13l : Int64) (l15i : Int32) (n sl : Nat) (SH : Nat → Nat × Nat) (FI : Nat → Nat → Int32) (FL : Nat → Nat → Int64) (FR : Nat → Nat → Option Nat) (hok : pk n SH FR)  (hK12 : ∀ (l8l : Int64) (l10i : Int32) (l11l : Int64) (l13l : Int64) (l15i : Int32) (n sl : Nat) (SH : Nat → Nat × Nat) (FI : Nat → Nat → Int32) (FL : Nat → Nat → Int64) (FR : Nat → Nat → Option Nat), pk n SH FR → pw pj_I sk base N d none 195 12 [(0, .ref (base + 121)), (1, .int (a1)), (2, .int (a2)), (3, .long (a3)), (5, .long (a4)), (7, .int (a5)), (8, .long (l8l)), (10, .int (l10i)), (11, .long (l11l)), (13, .long (l13l)), (15, .int (l15i))] [] (n, sl, SH, FI, FL, FR) (K12 l8l l10i n sl SH FI FL FR)) : pw pj_I sk base N d none 195 210 [(0, .ref (base + 121)), (1, .int (a1)), (2, .int (a2)), (3, .long (a3)), (5, .long (a4)), (7, .int (a5)), (8, .long (l8l)), (10, .int (l10i)), (11, .long (l11l)), (13, .long (l13l)), (15, .int (l15i))] [] (n, sl, SH, FI, FL, FR) (RX12_finds_210 K12 a1 a2 a3 a4 a5 l8l l10i n sl SH FI FL FR) := by
  unfold RX12_finds_210
  refine pw_goto (tgt := 12) (aX12_finds 121 rfl) (by decide) ?_
  exact pw_Li (L2 := [(0, .ref (base + 121)), (1, .int (a1)), (2, .int (a2)), (3, .long (a3)), (5, .long (a4)), (7, .int (a5)), (8, .long (l8l)), (10, .int (l10i)), (11, .long (l11l)), (13, .long (l13l)), (15, .int (l15i))]) [0, 1, 2, 3, 4, 5, 6, 7, 8, 9, 10] (hK12 (l8l) (l10i) (l11l) (l13l) (l15i) n sl SH FI FL FR hok) ⟨rfl, rfl, rfl, rfl, rfl, rfl, rfl, rfl, rfl, rfl, rfl, trivial⟩
set_option maxHeartbeats 4000000 in
set_option maxRecDepth 100000 in
theorem rX12_finds_200 {sk : xK} {base N d : Nat} {K12 : Int64 → Int32 → Nat → Nat → (Nat → Nat × Nat) → (Nat → Nat → Int32) → (Nat → Nat → Int64) → (Nat → Nat → Option Nat) → Int32 → hS → Prop} (hkb : x_kb sk base) (a1 : Int32) (a2 : Int32) (a3 : Int64) (a4 : Int64) (a5 : Int32) (l8l : Int64) (l10i : Int32) (l15i : Int32) (l11l : Int64) (l13l : Int64) (n sl : Nat) (SH : Nat → Nat × Nat) (FI : Nat → Nat → Int32) (FL : Nat → Nat → Int64) (FR : Nat → Nat → Option Nat) (hok : pk n SH FR)  (hK12 : ∀ (l8l : Int64) (l10i : Int32) (l11l : Int64) (l13l : Int64) (l15i : Int32) (n sl : Nat) (SH : Nat → Nat × Nat) (FI : Nat → Nat → Int32) (FL : Nat → Nat → Int64) (FR : Nat → Nat → Option Nat), pk n SH FR → pw pj_I sk base N d none 195 12 [(0, .ref (base + 121)), (1, .int (a1)), (2, .int (a2)), (3, .long (a3)), (5, .long (a4)), (7, .int (a5)), (8, .long (l8l)), (10, .int (l10i)), (11, .long (l11l)), (13, .long (l13l)), (15, .int (l15i))] [] (n, sl, SH, FI, FL, FR) (K12 l8l l10i n sl SH FI FL FR)) : pw pj_I sk base N d none 195 200 [(0, .ref (base + 121)), (1, .int (a1)), (2, .int (a2)), (3, .long (a3)), (5, .long (a4)), (7, .int (a5)), (8, .long (l8l)), (10, .int (l10i)), (11, .long (l11l)), (13, .long (l13l)), (15, .int (l15i))] [] (n, sl, SH, FI, FL, FR) (RX12_finds_200 K12 a1 a2 a3 a4 a5 l8l l10i l15i n sl SH FI FL FR) := by
  unfold RX12_finds_200
  refine pw_iload (aX12_finds 115 rfl) rfl ?_
  refine pw_bipush (v := (18 : Int32)) (aX12_finds 116 rfl) rfl ?_
  refine pw_iadd (aX12_finds 117 rfl) ?_
  refine pw_iload (aX12_finds 118 rfl) rfl ?_
  refine pw_iadd (aX12_finds 119 rfl) ?_
  refine pw_istore (L2 := [(10, .int (((l10i) + ((18 : Int32))) + (l15i))), (0, .ref (base + 121)), (1, .int (a1)), (2, .int (a2)), (3, .long (a3)), (5, .long (a4)), (7, .int (a5)), (8, .long (l8l)), (11, .long (l11l)), (13, .long (l13l)), (15, .int (l15i))]) (aX12_finds 120 rfl) rfl ?_
  exact pw_Li (L2 := [(0, .ref (base + 121)), (1, .int (a1)), (2, .int (a2)), (3, .long (a3)), (5, .long (a4)), (7, .int (a5)), (8, .long (l8l)), (10, .int (((l10i) + ((18 : Int32))) + (l15i))), (11, .long (l11l)), (13, .long (l13l)), (15, .int (l15i))]) [7, 0, 1, 2, 3, 4, 5, 6, 8, 9, 10] (rX12_finds_210 hkb a1 a2 a3 a4 a5 (l8l) (((l10i) + ((18 : Int32))) + (l15i)) (l11l) (l13l) (l15i) n sl SH FI FL FR hok  hK12) ⟨rfl, rfl, rfl, rfl, rfl, rfl, rfl, rfl, rfl, rfl, rfl, trivial⟩
set_option maxHeartbeats 4000000 in
set_option maxRecDepth 100000 in
theorem rX12_finds_81 {sk : xK} {base N d : Nat} {K12 : Int64 → Int32 → Nat → Nat → (Nat → Nat × Nat) → (Nat → Nat → Int32) → (Nat → Nat → Int64) → (Nat → Nat → Option Nat) → Int32 → hS → Prop} (hkb : x_kb sk base) (a1 : Int32) (a2 : Int32) (a3 : Int64) (a4 : Int64) (a5 : Int32) (l8l : Int64) (l10i : Int32) (l11l : Int64) (l13l : Int64) (l15i : Int32) (n sl : Nat) (SH : Nat → Nat × Nat) (FI : Nat → Nat → Int32) (FL : Nat → Nat → Int64) (FR : Nat → Nat → Option Nat) (hok : pk n SH FR)  (hK12 : ∀ (l8l : Int64) (l10i : Int32) (l11l : Int64) (l13l : Int64) (l15i : Int32) (n sl : Nat) (SH : Nat → Nat × Nat) (FI : Nat → Nat → Int32) (FL : Nat → Nat → Int64) (FR : Nat → Nat → Option Nat), pk n SH FR → pw pj_I sk base N d none 195 12 [(0, .ref (base + 121)), (1, .int (a1)), (2, .int (a2)), (3, .long (a3)), (5, .long (a4)), (7, .int (a5)), (8, .long (l8l)), (10, .int (l10i)), (11, .long (l11l)), (13, .long (l13l)), (15, .int (l15i))] [] (n, sl, SH, FI, FL, FR) (K12 l8l l10i n sl SH FI FL FR)) : pw pj_I sk base N d none 195 81 [(0, .ref (base + 121)), (1, .int (a1)), (2, .int (a2)), (3, .long (a3)), (5, .long (a4)), (7, .int (a5)), (8, .long (l8l)), (10, .int (l10i)), (11, .long (l11l)), (13, .long (l13l)), (15, .int (l15i))] [] (n, sl, SH, FI, FL, FR) (RX12_finds_81 K12 a1 a2 a3 a4 a5 l8l l10i l11l l13l n sl SH FI FL FR) := by
  unfold RX12_finds_81
  refine pw_lload (aX12_finds 48 rfl) rfl ?_
  refine pw_ldc2 (v := (-1 : Int64)) (aX12_finds 49 rfl) uk_RX12_226 ?_
  refine pw_lcne (tgt := 104) (aX12_finds 50 rfl) (aX12_finds 51 rfl) (by decide) (fun b0 => ?_) (fun b0 => ?_)
  · skip
    refine pw_lload (aX12_finds 52 rfl) rfl ?_
    refine pw_lstore (L2 := [(8, .long (l13l)), (0, .ref (base + 121)), (1, .int (a1)), (2, .int (a2)), (3, .long (a3)), (5, .long (a4)), (7, .int (a5)), (10, .int (l10i)), (11, .long (l11l)), (13, .long (l13l)), (15, .int (l15i))]) (aX12_finds 53 rfl) rfl ?_
    refine pw_iload (aX12_finds 54 rfl) rfl ?_
    refine pw_bipush (v := (16 : Int32)) (aX12_finds 55 rfl) rfl ?_
    refine pw_iadd (aX12_finds 56 rfl) ?_
    refine pw_istore (L2 := [(10, .int ((l10i) + ((16 : Int32)))), (8, .long (l13l)), (0, .ref (base + 121)), (1, .int (a1)), (2, .int (a2)), (3, .long (a3)), (5, .long (a4)), (7, .int (a5)), (11, .long (l11l)), (13, .long (l13l)), (15, .int (l15i))]) (aX12_finds 57 rfl) rfl ?_
    refine pw_goto (tgt := 210) (aX12_finds 58 rfl) (by decide) ?_
    exact pw_Li (L2 := [(0, .ref (base + 121)), (1, .int (a1)), (2, .int (a2)), (3, .long (a3)), (5, .long (a4)), (7, .int (a5)), (8, .long (l13l)), (10, .int ((l10i) + ((16 : Int32)))), (11, .long (l11l)), (13, .long (l13l)), (15, .int (l15i))]) [7, 6, 0, 1, 2, 3, 4, 5, 8, 9, 10] (rX12_finds_210 hkb a1 a2 a3 a4 a5 (l13l) ((l10i) + ((16 : Int32))) (l11l) (l13l) (l15i) n sl SH FI FL FR hok  hK12) ⟨rfl, rfl, rfl, rfl, rfl, rfl, rfl, rfl, rfl, rfl, rfl, trivial⟩
  · skip
    refine pw_iload (aX12_finds 59 rfl) rfl ?_
    refine pw_bipush (v := (18 : Int32)) (aX12_finds 60 rfl) rfl ?_
    refine pw_iadd (aX12_finds 61 rfl) ?_
    refine pw_iloadn (aX12_finds 62 rfl) rfl ?_
    refine pw_icle (tgt := 121) (aX12_finds 63 rfl) (by decide) (fun b1 => ?_) (fun b1 => ?_)
    · skip
      refine pw_aloadn (aX12_finds 64 rfl) rfl ?_
      refine pw_iconst (v := (1 : Int32)) (aX12_finds 65 rfl) rfl ?_
      refine pw_iload (aX12_finds 66 rfl) rfl ?_
      refine pw_callV (Bs := [.int ((1 : Int32)), .int (l10i)]) (rest := []) (aX12_finds 67 rfl) um_RX12_380 ujX12_tells wc_RX12_380.2.2.2.2 (by decide) (by decide) rfl rfl (fun d => rX12_tells hkb ((1 : Int32)) (l10i) n sl SH FI FL FR hok) (fun v2 n2 sl2 SH2 FI2 FL2 FR2 hok2 _ => ?_)
      show pw _ _ _ _ _ _ _ 120 _ [.int (v2)] _ _
      exact pw_iret (aX12_finds 68 rfl) hok2
    · skip
      refine pw_aloadn (aX12_finds 69 rfl) rfl ?_
      refine pw_iloadn (aX12_finds 70 rfl) rfl ?_
      refine pw_iload (aX12_finds 71 rfl) rfl ?_
      refine pw_iadd (aX12_finds 72 rfl) ?_
      refine pw_bipush (v := (16 : Int32)) (aX12_finds 73 rfl) rfl ?_
      refine pw_iadd (aX12_finds 74 rfl) ?_
      refine pw_iconst (v := (2 : Int32)) (aX12_finds 75 rfl) rfl ?_
      refine pw_callV (Bs := [.int (((a1) + (l10i)) + ((16 : Int32))), .int ((2 : Int32))]) (rest := []) (aX12_finds 76 rfl) um_RX12_394 ujX12_number wc_RX12_394.2.2.2.2 (by decide) (by decide) rfl rfl (fun d => rX12_number hkb (((a1) + (l10i)) + ((16 : Int32))) ((2 : Int32)) n sl SH FI FL FR hok) (fun v3 n3 sl3 SH3 FI3 FL3 FR3 hok3 _ => ?_)
      show pw _ _ _ _ _ _ _ 133 _ [.long (v3)] _ _
      refine pw_l2i (aX12_finds 77 rfl) ?_
      refine pw_istore (L2 := [(15, .int ((v3).toInt32)), (0, .ref (base + 121)), (1, .int (a1)), (2, .int (a2)), (3, .long (a3)), (5, .long (a4)), (7, .int (a5)), (8, .long (l8l)), (10, .int (l10i)), (11, .long (l11l)), (13, .long (l13l))]) (aX12_finds 78 rfl) rfl ?_
      refine pw_iload (aX12_finds 79 rfl) rfl ?_
      refine pw_bipush (v := (18 : Int32)) (aX12_finds 80 rfl) rfl ?_
      refine pw_iadd (aX12_finds 81 rfl) ?_
      refine pw_iload (aX12_finds 82 rfl) rfl ?_
      refine pw_iadd (aX12_finds 83 rfl) ?_
      refine pw_iloadn (aX12_finds 84 rfl) rfl ?_
      refine pw_icle (tgt := 156) (aX12_finds 85 rfl) (by decide) (fun b4 => ?_) (fun b4 => ?_)
      · skip
        refine pw_aloadn (aX12_finds 86 rfl) rfl ?_
        refine pw_iconst (v := (1 : Int32)) (aX12_finds 87 rfl) rfl ?_
        refine pw_iload (aX12_finds 88 rfl) rfl ?_
        refine pw_callV (Bs := [.int ((1 : Int32)), .int (l10i)]) (rest := []) (aX12_finds 89 rfl) um_RX12_380 ujX12_tells wc_RX12_380.2.2.2.2 (by decide) (by decide) rfl rfl (fun d => rX12_tells hkb ((1 : Int32)) (l10i) n3 sl3 SH3 FI3 FL3 FR3 hok3) (fun v5 n5 sl5 SH5 FI5 FL5 FR5 hok5 _ => ?_)
        show pw _ _ _ _ _ _ _ 155 _ [.int (v5)] _ _
        exact pw_iret (aX12_finds 90 rfl) hok5
      · skip
        refine pw_aloadn (aX12_finds 91 rfl) rfl ?_
        refine pw_lload (aX12_finds 92 rfl) rfl ?_
        refine pw_lload (aX12_finds 93 rfl) rfl ?_
        refine pw_lload (aX12_finds 94 rfl) rfl ?_
        refine pw_ladd (aX12_finds 95 rfl) ?_
        refine pw_cf (pw_callV (Bs := [.long (a4), .long ((l8l) + (l11l))]) (rest := []) (aX12_finds 96 rfl) um_RX12_242 ujX12_isBelow wc_RX12_242.2.2.2.2 (by decide) (by decide) rfl rfl (fun d => rX12_isBelow hkb (a4) ((l8l) + (l11l)) n3 sl3 SH3 FI3 FL3 FR3 hok3) (fun v6 n6 sl6 SH6 FI6 FL6 FR6 _ hC => ?_))
        obtain ⟨e9, hC⟩ := hC; have e9 := e9.symm; subst e9; cases hC
        show pw _ _ _ _ _ _ _ 167 _ [.int (fX12_isBelow (a4) ((l8l) + (l11l)) SH3 FI3 FL3 FR3)] _ _
        refine pw_ifne (tgt := 200) (aX12_finds 97 rfl) (by decide) (fun b7 => ?_) (fun b7 => ?_)
        · skip
          refine pw_aloadn (aX12_finds 98 rfl) rfl ?_
          refine pw_lload (aX12_finds 99 rfl) rfl ?_
          refine pw_lload (aX12_finds 100 rfl) rfl ?_
          refine pw_lload (aX12_finds 101 rfl) rfl ?_
          refine pw_ladd (aX12_finds 102 rfl) ?_
          refine pw_cf (pw_callV (Bs := [.long (a4), .long ((l8l) + (l13l))]) (rest := []) (aX12_finds 103 rfl) um_RX12_242 ujX12_isBelow wc_RX12_242.2.2.2.2 (by decide) (by decide) rfl rfl (fun d => rX12_isBelow hkb (a4) ((l8l) + (l13l)) n3 sl3 SH3 FI3 FL3 FR3 hok3) (fun v8 n8 sl8 SH8 FI8 FL8 FR8 _ hC => ?_))
          obtain ⟨e9, hC⟩ := hC; have e9 := e9.symm; subst e9; cases hC
          show pw _ _ _ _ _ _ _ 181 _ [.int (fX12_isBelow (a4) ((l8l) + (l13l)) SH3 FI3 FL3 FR3)] _ _
          refine pw_ifeq (tgt := 200) (aX12_finds 104 rfl) (by decide) (fun b9 => ?_) (fun b9 => ?_)
          · skip
            exact pw_Li (L2 := [(0, .ref (base + 121)), (1, .int (a1)), (2, .int (a2)), (3, .long (a3)), (5, .long (a4)), (7, .int (a5)), (8, .long (l8l)), (10, .int (l10i)), (11, .long (l11l)), (13, .long (l13l)), (15, .int ((v3).toInt32))]) [10, 0, 1, 2, 3, 4, 5, 6, 7, 8, 9] (rX12_finds_200 hkb a1 a2 a3 a4 a5 (l8l) (l10i) ((v3).toInt32) (l11l) (l13l) n3 sl3 SH3 FI3 FL3 FR3 hok3  hK12) ⟨rfl, rfl, rfl, rfl, rfl, rfl, rfl, rfl, rfl, rfl, rfl, trivial⟩
          · skip
            refine pw_aloadn (aX12_finds 105 rfl) rfl ?_
            refine pw_iloadn (aX12_finds 106 rfl) rfl ?_
            refine pw_iload (aX12_finds 107 rfl) rfl ?_
            refine pw_iadd (aX12_finds 108 rfl) ?_
            refine pw_bipush (v := (18 : Int32)) (aX12_finds 109 rfl) rfl ?_
            refine pw_iadd (aX12_finds 110 rfl) ?_
            refine pw_iload (aX12_finds 111 rfl) rfl ?_
            refine pw_iload (aX12_finds 112 rfl) rfl ?_
            refine pw_callV (Bs := [.int (((a1) + (l10i)) + ((18 : Int32))), .int ((v3).toInt32), .int (a5)]) (rest := []) (aX12_finds 113 rfl) um_RX12_389 ujX12_runs wc_RX12_389.2.2.2.2 (by decide) (by decide) rfl rfl (fun d => rX12_runs hkb (((a1) + (l10i)) + ((18 : Int32))) ((v3).toInt32) (a5) n3 sl3 SH3 FI3 FL3 FR3 hok3) (fun v10 n10 sl10 SH10 FI10 FL10 FR10 hok10 _ => ?_)
            show pw _ _ _ _ _ _ _ 199 _ [.int (v10)] _ _
            exact pw_iret (aX12_finds 114 rfl) hok10
        · skip
          exact pw_Li (L2 := [(0, .ref (base + 121)), (1, .int (a1)), (2, .int (a2)), (3, .long (a3)), (5, .long (a4)), (7, .int (a5)), (8, .long (l8l)), (10, .int (l10i)), (11, .long (l11l)), (13, .long (l13l)), (15, .int ((v3).toInt32))]) [10, 0, 1, 2, 3, 4, 5, 6, 7, 8, 9] (rX12_finds_200 hkb a1 a2 a3 a4 a5 (l8l) (l10i) ((v3).toInt32) (l11l) (l13l) n3 sl3 SH3 FI3 FL3 FR3 hok3  hK12) ⟨rfl, rfl, rfl, rfl, rfl, rfl, rfl, rfl, rfl, rfl, rfl, trivial⟩
set_option maxHeartbeats 4000000 in
set_option maxRecDepth 100000 in
theorem bX12_finds_12 {sk : xK} {base N d : Nat} {K12 : Int64 → Int32 → Nat → Nat → (Nat → Nat × Nat) → (Nat → Nat → Int32) → (Nat → Nat → Int64) → (Nat → Nat → Option Nat) → Int32 → hS → Prop} (hkb : x_kb sk base) (a1 : Int32) (a2 : Int32) (a3 : Int64) (a4 : Int64) (a5 : Int32) (l8l : Int64) (l10i : Int32) (l11l : Int64) (l13l : Int64) (l15i : Int32) (n sl : Nat) (SH : Nat → Nat × Nat) (FI : Nat → Nat → Int32) (FL : Nat → Nat → Int64) (FR : Nat → Nat → Option Nat) (hok : pk n SH FR)  (hK12 : ∀ (l8l : Int64) (l10i : Int32) (l11l : Int64) (l13l : Int64) (l15i : Int32) (n sl : Nat) (SH : Nat → Nat × Nat) (FI : Nat → Nat → Int32) (FL : Nat → Nat → Int64) (FR : Nat → Nat → Option Nat), pk n SH FR → pw pj_I sk base N d none 195 12 [(0, .ref (base + 121)), (1, .int (a1)), (2, .int (a2)), (3, .long (a3)), (5, .long (a4)), (7, .int (a5)), (8, .long (l8l)), (10, .int (l10i)), (11, .long (l11l)), (13, .long (l13l)), (15, .int (l15i))] [] (n, sl, SH, FI, FL, FR) (K12 l8l l10i n sl SH FI FL FR)) : pw pj_I sk base (N + 1) d none 195 12 [(0, .ref (base + 121)), (1, .int (a1)), (2, .int (a2)), (3, .long (a3)), (5, .long (a4)), (7, .int (a5)), (8, .long (l8l)), (10, .int (l10i)), (11, .long (l11l)), (13, .long (l13l)), (15, .int (l15i))] [] (n, sl, SH, FI, FL, FR) (BX12_finds_12 K12 a1 a2 a3 a4 a5 l8l l10i n sl SH FI FL FR) := by
  unfold BX12_finds_12
  refine pd_iload (aX12_finds 7 rfl) rfl ?_
  refine pw_bipush (v := (16 : Int32)) (aX12_finds 8 rfl) rfl ?_
  refine pw_iadd (aX12_finds 9 rfl) ?_
  refine pw_iloadn (aX12_finds 10 rfl) rfl ?_
  refine pw_icle (tgt := 29) (aX12_finds 11 rfl) (by decide) (fun b0 => ?_) (fun b0 => ?_)
  · skip
    refine pw_aloadn (aX12_finds 12 rfl) rfl ?_
    refine pw_iconst (v := (1 : Int32)) (aX12_finds 13 rfl) rfl ?_
    refine pw_iload (aX12_finds 14 rfl) rfl ?_
    refine pw_callV (Bs := [.int ((1 : Int32)), .int (l10i)]) (rest := []) (aX12_finds 15 rfl) um_RX12_380 ujX12_tells wc_RX12_380.2.2.2.2 (by decide) (by decide) rfl rfl (fun d => rX12_tells hkb ((1 : Int32)) (l10i) n sl SH FI FL FR hok) (fun v1 n1 sl1 SH1 FI1 FL1 FR1 hok1 _ => ?_)
    show pw _ _ _ _ _ _ _ 28 _ [.int (v1)] _ _
    exact pw_iret (aX12_finds 16 rfl) hok1
  · skip
    refine pw_aloadn (aX12_finds 17 rfl) rfl ?_
    refine pw_iloadn (aX12_finds 18 rfl) rfl ?_
    refine pw_iload (aX12_finds 19 rfl) rfl ?_
    refine pw_iadd (aX12_finds 20 rfl) ?_
    refine pw_bipush (v := (8 : Int32)) (aX12_finds 21 rfl) rfl ?_
    refine pw_callV (Bs := [.int ((a1) + (l10i)), .int ((8 : Int32))]) (rest := []) (aX12_finds 22 rfl) um_RX12_394 ujX12_number wc_RX12_394.2.2.2.2 (by decide) (by decide) rfl rfl (fun d => rX12_number hkb ((a1) + (l10i)) ((8 : Int32)) n sl SH FI FL FR hok) (fun v2 n2 sl2 SH2 FI2 FL2 FR2 hok2 _ => ?_)
    show pw _ _ _ _ _ _ _ 39 _ [.long (v2)] _ _
    refine pw_lstore (L2 := [(11, .long (v2)), (0, .ref (base + 121)), (1, .int (a1)), (2, .int (a2)), (3, .long (a3)), (5, .long (a4)), (7, .int (a5)), (8, .long (l8l)), (10, .int (l10i)), (13, .long (l13l)), (15, .int (l15i))]) (aX12_finds 23 rfl) rfl ?_
    refine pw_aloadn (aX12_finds 24 rfl) rfl ?_
    refine pw_iloadn (aX12_finds 25 rfl) rfl ?_
    refine pw_iload (aX12_finds 26 rfl) rfl ?_
    refine pw_iadd (aX12_finds 27 rfl) ?_
    refine pw_bipush (v := (8 : Int32)) (aX12_finds 28 rfl) rfl ?_
    refine pw_iadd (aX12_finds 29 rfl) ?_
    refine pw_bipush (v := (8 : Int32)) (aX12_finds 30 rfl) rfl ?_
    refine pw_callV (Bs := [.int (((a1) + (l10i)) + ((8 : Int32))), .int ((8 : Int32))]) (rest := []) (aX12_finds 31 rfl) um_RX12_394 ujX12_number wc_RX12_394.2.2.2.2 (by decide) (by decide) rfl rfl (fun d => rX12_number hkb (((a1) + (l10i)) + ((8 : Int32))) ((8 : Int32)) n2 sl2 SH2 FI2 FL2 FR2 hok2) (fun v3 n3 sl3 SH3 FI3 FL3 FR3 hok3 _ => ?_)
    show pw _ _ _ _ _ _ _ 54 _ [.long (v3)] _ _
    refine pw_lstore (L2 := [(13, .long (v3)), (11, .long (v2)), (0, .ref (base + 121)), (1, .int (a1)), (2, .int (a2)), (3, .long (a3)), (5, .long (a4)), (7, .int (a5)), (8, .long (l8l)), (10, .int (l10i)), (15, .int (l15i))]) (aX12_finds 32 rfl) rfl ?_
    refine pw_lload (aX12_finds 33 rfl) rfl ?_
    refine pw_lconst (v := (0 : Int64)) (aX12_finds 34 rfl) rfl ?_
    refine pw_lcne (tgt := 81) (aX12_finds 35 rfl) (aX12_finds 36 rfl) (by decide) (fun b4 => ?_) (fun b4 => ?_)
    · skip
      refine pw_lload (aX12_finds 37 rfl) rfl ?_
      refine pw_lconst (v := (0 : Int64)) (aX12_finds 38 rfl) rfl ?_
      refine pw_lcne (tgt := 81) (aX12_finds 39 rfl) (aX12_finds 40 rfl) (by decide) (fun b5 => ?_) (fun b5 => ?_)
      · skip
        refine pw_aloadn (aX12_finds 41 rfl) rfl ?_
        refine pw_callV (Bs := []) (rest := []) (aX12_finds 42 rfl) um_RX12_383 ujX12_empty wc_RX12_383.2.2.2.2 (by decide) (by decide) rfl rfl (fun d => rX12_empty hkb  n3 sl3 SH3 FI3 FL3 FR3 hok3) (fun v6 n6 sl6 SH6 FI6 FL6 FR6 hok6 _ => ?_)
        show pw _ _ _ _ _ _ _ 74 _ [] _ _
        refine pw_aloadn (aX12_finds 43 rfl) rfl ?_
        refine pw_iconst (v := (0 : Int32)) (aX12_finds 44 rfl) rfl ?_
        refine pw_iconst (v := (-1 : Int32)) (aX12_finds 45 rfl) rfl ?_
        refine pw_callV (Bs := [.int ((0 : Int32)), .int ((-1 : Int32))]) (rest := []) (aX12_finds 46 rfl) um_RX12_380 ujX12_tells wc_RX12_380.2.2.2.2 (by decide) (by decide) rfl rfl (fun d => rX12_tells hkb ((0 : Int32)) ((-1 : Int32)) n6 sl6 SH6 FI6 FL6 FR6 hok6) (fun v7 n7 sl7 SH7 FI7 FL7 FR7 hok7 _ => ?_)
        show pw _ _ _ _ _ _ _ 80 _ [.int (v7)] _ _
        exact pw_iret (aX12_finds 47 rfl) hok7
      · skip
        exact pw_Li (L2 := [(0, .ref (base + 121)), (1, .int (a1)), (2, .int (a2)), (3, .long (a3)), (5, .long (a4)), (7, .int (a5)), (8, .long (l8l)), (10, .int (l10i)), (11, .long (v2)), (13, .long (v3)), (15, .int (l15i))]) [9, 8, 0, 1, 2, 3, 4, 5, 6, 7, 10] (rX12_finds_81 hkb a1 a2 a3 a4 a5 (l8l) (l10i) (v2) (v3) (l15i) n3 sl3 SH3 FI3 FL3 FR3 hok3  hK12) ⟨rfl, rfl, rfl, rfl, rfl, rfl, rfl, rfl, rfl, rfl, rfl, trivial⟩
    · skip
      exact pw_Li (L2 := [(0, .ref (base + 121)), (1, .int (a1)), (2, .int (a2)), (3, .long (a3)), (5, .long (a4)), (7, .int (a5)), (8, .long (l8l)), (10, .int (l10i)), (11, .long (v2)), (13, .long (v3)), (15, .int (l15i))]) [9, 8, 0, 1, 2, 3, 4, 5, 6, 7, 10] (rX12_finds_81 hkb a1 a2 a3 a4 a5 (l8l) (l10i) (v2) (v3) (l15i) n3 sl3 SH3 FI3 FL3 FR3 hok3  hK12) ⟨rfl, rfl, rfl, rfl, rfl, rfl, rfl, rfl, rfl, rfl, rfl, trivial⟩
theorem gX12_finds_12 {sk : xK} {base d : Nat}  (hkb : x_kb sk base) (a1 : Int32) (a2 : Int32) (a3 : Int64) (a4 : Int64) (a5 : Int32) (N : Nat) :  ∀ (l8l : Int64) (l10i : Int32) (l11l : Int64) (l13l : Int64) (l15i : Int32) (n sl : Nat) (SH : Nat → Nat × Nat) (FI : Nat → Nat → Int32) (FL : Nat → Nat → Int64) (FR : Nat → Nat → Option Nat), pk n SH FR → pw pj_I sk base N d none 195 12 [(0, .ref (base + 121)), (1, .int (a1)), (2, .int (a2)), (3, .long (a3)), (5, .long (a4)), (7, .int (a5)), (8, .long (l8l)), (10, .int (l10i)), (11, .long (l11l)), (13, .long (l13l)), (15, .int (l15i))] [] (n, sl, SH, FI, FL, FR) (GX12_finds_12  a1 a2 a3 a4 a5 (N + 1) l8l l10i n sl SH FI FL FR) := by
  induction N with
  | zero => intros; exact pw_0
  | succ N ih => intro   l8l l10i l11l l13l l15i n sl SH FI FL FR hok; exact bX12_finds_12 hkb a1 a2 a3 a4 a5 l8l l10i l11l l13l l15i n sl SH FI FL FR hok  (ih  )
theorem rX12_finds_12 {sk : xK} {base N d : Nat}  (hkb : x_kb sk base) (a1 : Int32) (a2 : Int32) (a3 : Int64) (a4 : Int64) (a5 : Int32) (l8l : Int64) (l10i : Int32) (l11l : Int64) (l13l : Int64) (l15i : Int32) (n sl : Nat) (SH : Nat → Nat × Nat) (FI : Nat → Nat → Int32) (FL : Nat → Nat → Int64) (FR : Nat → Nat → Option Nat) (hok : pk n SH FR)   : pw pj_I sk base N d none 195 12 [(0, .ref (base + 121)), (1, .int (a1)), (2, .int (a2)), (3, .long (a3)), (5, .long (a4)), (7, .int (a5)), (8, .long (l8l)), (10, .int (l10i)), (11, .long (l11l)), (13, .long (l13l)), (15, .int (l15i))] [] (n, sl, SH, FI, FL, FR) (RX12_finds_12  a1 a2 a3 a4 a5 l8l l10i n sl SH FI FL FR) := pw_cons (gX12_finds_12 hkb a1 a2 a3 a4 a5 N   l8l l10i l11l l13l l15i n sl SH FI FL FR hok) (fun _ _ h => ⟨_, h⟩)
set_option maxHeartbeats 4000000 in
set_option maxRecDepth 100000 in
theorem rX12_finds {sk : xK} {base N d : Nat} (hkb : x_kb sk base) (a1 : Int32) (a2 : Int32) (a3 : Int64) (a4 : Int64) (a5 : Int32) (n sl : Nat) (SH : Nat → Nat × Nat) (FI : Nat → Nat → Int32) (FL : Nat → Nat → Int64) (FR : Nat → Nat → Option Nat) (hok : pk n SH FR)  : pw pj_I sk base N d none 195 0 [(0, .ref (base + 121)), (1, .int (a1)), (2, .int (a2)), (3, .long (a3)), (5, .long (a4)), (7, .int (a5))] [] (n, sl, SH, FI, FL, FR) (RX12_finds a1 a2 a3 a4 a5 n sl SH FI FL FR) := by
  unfold RX12_finds
  refine pw_lloadn (aX12_finds 0 rfl) rfl ?_
  refine pw_lstore (L2 := [(8, .long (a3)), (0, .ref (base + 121)), (1, .int (a1)), (2, .int (a2)), (3, .long (a3)), (5, .long (a4)), (7, .int (a5))]) (aX12_finds 1 rfl) rfl ?_
  refine pw_iconst (v := (0 : Int32)) (aX12_finds 2 rfl) rfl ?_
  refine pw_istore (L2 := [(10, .int ((0 : Int32))), (8, .long (a3)), (0, .ref (base + 121)), (1, .int (a1)), (2, .int (a2)), (3, .long (a3)), (5, .long (a4)), (7, .int (a5))]) (aX12_finds 3 rfl) rfl ?_
  refine pw_aloadn (aX12_finds 4 rfl) rfl ?_
  refine pw_iload (aX12_finds 5 rfl) rfl ?_
  refine pw_callV (Bs := [.int (a5)]) (rest := []) (aX12_finds 6 rfl) um_RX12_373 ujX12_begins wc_RX12_373.2.2.2.2 (by decide) (by decide) rfl rfl (fun d => rX12_begins hkb (a5) n sl SH FI FL FR hok) (fun v0 n0 sl0 SH0 FI0 FL0 FR0 hok0 _ => ?_)
  show pw _ _ _ _ _ _ _ 12 _ [] _ _
  exact pw_Li (L2 := [(0, .ref (base + 121)), (1, .int (a1)), (2, .int (a2)), (3, .long (a3)), (5, .long (a4)), (7, .int (a5)), (8, .long (a3)), (10, .int ((0 : Int32))), (11, .long 0), (13, .long 0), (15, .int 0)]) [7, 6, 0, 1, 2, 3, 4, 5] (rX12_finds_12 hkb a1 a2 a3 a4 a5 (a3) ((0 : Int32)) 0 0 0 n0 sl0 SH0 FI0 FL0 FR0 hok0  ) ⟨rfl, rfl, rfl, rfl, rfl, rfl, rfl, rfl, trivial⟩
set_option maxHeartbeats 4000000 in
set_option maxRecDepth 100000 in
theorem rX12_find {sk : xK} {base N d : Nat} (hkb : x_kb sk base) (a1 : Int32) (a2 : Int64) (a3 : Int64) (a4 : Int32) (n sl : Nat) (SH : Nat → Nat × Nat) (FI : Nat → Nat → Int32) (FL : Nat → Nat → Int64) (FR : Nat → Nat → Option Nat) (hok : pk n SH FR)  : pw pj_I sk base N d none 196 0 [(0, .ref (base + 121)), (1, .int (a1)), (2, .long (a2)), (4, .long (a3)), (6, .int (a4))] [] (n, sl, SH, FI, FL, FR) (RX12_find a1 a2 a3 a4 n sl SH FI FL FR) := by
  unfold RX12_find
  refine pw_aloadn (aX12_find 0 rfl) rfl ?_
  refine pw_iconst (v := (0 : Int32)) (aX12_find 1 rfl) rfl ?_
  refine pw_putri (aX12_find 2 rfl) uf_RX12_187 (fun _ _ _ => rfl) (fun t1 => ?_)
  refine pw_iloadn (aX12_find 3 rfl) rfl ?_
  refine pw_iflt (tgt := 23) (aX12_find 4 rfl) (by decide) (fun b1 => ?_) (fun b1 => ?_)
  · skip
    refine pw_iconst (v := (-1 : Int32)) (aX12_find 12 rfl) rfl ?_
    exact pw_iret (aX12_find 13 rfl) hok
  · skip
    refine pw_iloadn (aX12_find 5 rfl) rfl ?_
    refine pw_iconst (v := (3 : Int32)) (aX12_find 6 rfl) rfl ?_
    refine pw_icgt (tgt := 23) (aX12_find 7 rfl) (by decide) (fun b2 => ?_) (fun b2 => ?_)
    · skip
      refine pw_iconst (v := (-1 : Int32)) (aX12_find 12 rfl) rfl ?_
      exact pw_iret (aX12_find 13 rfl) hok
    · skip
      refine pw_aloadn (aX12_find 8 rfl) rfl ?_
      refine pw_iload (aX12_find 9 rfl) rfl ?_
      refine pw_cf (pw_callV (Bs := [.int (a4)]) (rest := []) (aX12_find 10 rfl) um_RX12_386 ujX12_isFuel wc_RX12_386.2.2.2.2 (by decide) (by decide) rfl rfl (fun d => rX12_isFuel hkb (a4) n sl SH (h_up FI 121 0 ((0 : Int32))) FL FR hok) (fun v3 n3 sl3 SH3 FI3 FL3 FR3 _ hC => ?_))
      obtain ⟨rfl, hC⟩ := hC; cases hC
      show pw _ _ _ _ _ _ _ 20 _ [.int (fX12_isFuel (a4) SH (h_up FI 121 0 ((0 : Int32))) FL FR)] _ _
      refine pw_ifne (tgt := 25) (aX12_find 11 rfl) (by decide) (fun b4 => ?_) (fun b4 => ?_)
      · skip
        refine pw_iconst (v := (-1 : Int32)) (aX12_find 12 rfl) rfl ?_
        exact pw_iret (aX12_find 13 rfl) hok
      · skip
        refine pw_aloadn (aX12_find 14 rfl) rfl ?_
        refine pw_sipush (v := (9600 : Int32)) (aX12_find 15 rfl) rfl ?_
        refine pw_sipush (v := (600 : Int32)) (aX12_find 16 rfl) rfl ?_
        refine pw_iloadn (aX12_find 17 rfl) rfl ?_
        refine pw_imul (aX12_find 18 rfl) ?_
        refine pw_iadd (aX12_find 19 rfl) ?_
        refine pw_aloadn (aX12_find 20 rfl) rfl ?_
        refine pw_getr (v := .ref (base + 125)) (aX12_find 21 rfl) uf_RX12_20 un_RX12_20 (congrArg (fun r => va_rf (h_rf base r)) (q121_4 (hok).2.1)) ?_
        refine pw_bipush (v := (16 : Int32)) (aX12_find 22 rfl) rfl ?_
        refine pw_iloadn (aX12_find 23 rfl) rfl ?_
        refine pw_iadd (aX12_find 24 rfl) ?_
        refine pw_ialdr (c := 125) (ix := (((16 : Int32)) + (a1)).toInt.toNat) (aX12_find 25 rfl) rfl (fun _ => ?_)
        refine pw_lloadn (aX12_find 26 rfl) rfl ?_
        refine pw_lload (aX12_find 27 rfl) rfl ?_
        refine pw_iload (aX12_find 28 rfl) rfl ?_
        refine pw_callV (Bs := [.int (((9600 : Int32)) + (((600 : Int32)) * (a1))), .int (FI 125 (((16 : Int32)) + (a1)).toInt.toNat), .long (a2), .long (a3), .int (a4)]) (rest := []) (aX12_find 29 rfl) um_RX12_398 ujX12_finds wc_RX12_398.2.2.2.2 (by decide) (by decide) rfl rfl (fun d => rX12_finds hkb (((9600 : Int32)) + (((600 : Int32)) * (a1))) (FI 125 (((16 : Int32)) + (a1)).toInt.toNat) (a2) (a3) (a4) n sl SH (h_up FI 121 0 ((0 : Int32))) FL FR hok) (fun v5 n5 sl5 SH5 FI5 FL5 FR5 hok5 _ => ?_)
        show pw _ _ _ _ _ _ _ 52 _ [.int (v5)] _ _
        exact pw_iret (aX12_find 30 rfl) hok5
set_option maxHeartbeats 4000000 in
set_option maxRecDepth 100000 in
theorem rX12_told {sk : xK} {base N d : Nat} (hkb : x_kb sk base) (a1 : Int32) (n sl : Nat) (SH : Nat → Nat × Nat) (FI : Nat → Nat → Int32) (FL : Nat → Nat → Int64) (FR : Nat → Nat → Option Nat) (hok : pk n SH FR)  : pw pj_I sk base N d none 197 0 [(0, .ref (base + 121)), (1, .int (a1))] [] (n, sl, SH, FI, FL, FR) (RX12_told a1 n sl SH FI FL FR) := by
  unfold RX12_told
  refine pw_aloadn (aX12_told 0 rfl) rfl ?_
  refine pw_iconst (v := (0 : Int32)) (aX12_told 1 rfl) rfl ?_
  refine pw_putri (aX12_told 2 rfl) uf_RX12_187 (fun _ _ _ => rfl) (fun t1 => ?_)
  refine pw_aloadn (aX12_told 3 rfl) rfl ?_
  refine pw_getr (v := .int (FI 121 53)) (aX12_told 4 rfl) uf_RX12_361 un_RX12_361 rfl ?_
  refine pw_ifne (tgt := 14) (aX12_told 5 rfl) (by decide) (fun b1 => ?_) (fun b1 => ?_)
  · skip
    refine pw_iconst (v := (-1 : Int32)) (aX12_told 6 rfl) rfl ?_
    exact pw_iret (aX12_told 7 rfl) hok
  · skip
    refine pw_iloadn (aX12_told 8 rfl) rfl ?_
    refine pw_ifne (tgt := 23) (aX12_told 9 rfl) (by decide) (fun b2 => ?_) (fun b2 => ?_)
    · skip
      refine pw_aloadn (aX12_told 10 rfl) rfl ?_
      refine pw_getr (v := .int (FI 121 54)) (aX12_told 11 rfl) uf_RX12_364 un_RX12_364 rfl ?_
      exact pw_iret (aX12_told 12 rfl) hok
    · skip
      refine pw_iloadn (aX12_told 13 rfl) rfl ?_
      refine pw_iconst (v := (1 : Int32)) (aX12_told 14 rfl) rfl ?_
      refine pw_icne (tgt := 33) (aX12_told 15 rfl) (by decide) (fun b3 => ?_) (fun b3 => ?_)
      · skip
        refine pw_aloadn (aX12_told 16 rfl) rfl ?_
        refine pw_getr (v := .int (FI 121 55)) (aX12_told 17 rfl) uf_RX12_99 un_RX12_99 rfl ?_
        exact pw_iret (aX12_told 18 rfl) hok
      · skip
        refine pw_iloadn (aX12_told 19 rfl) rfl ?_
        refine pw_iconst (v := (2 : Int32)) (aX12_told 20 rfl) rfl ?_
        refine pw_icne (tgt := 43) (aX12_told 21 rfl) (by decide) (fun b4 => ?_) (fun b4 => ?_)
        · skip
          refine pw_aloadn (aX12_told 22 rfl) rfl ?_
          refine pw_getr (v := .int (FI 121 56)) (aX12_told 23 rfl) uf_RX12_367 un_RX12_367 rfl ?_
          exact pw_iret (aX12_told 24 rfl) hok
        · skip
          refine pw_iloadn (aX12_told 25 rfl) rfl ?_
          refine pw_iconst (v := (3 : Int32)) (aX12_told 26 rfl) rfl ?_
          refine pw_icne (tgt := 55) (aX12_told 27 rfl) (by decide) (fun b5 => ?_) (fun b5 => ?_)
          · skip
            refine pw_aloadn (aX12_told 28 rfl) rfl ?_
            refine pw_getr (v := .int (FI 121 57)) (aX12_told 29 rfl) uf_RX12_370 un_RX12_370 rfl ?_
            refine pw_goto (tgt := 56) (aX12_told 30 rfl) (by decide) ?_
            exact pw_iret (aX12_told 32 rfl) hok
          · skip
            refine pw_iconst (v := (-1 : Int32)) (aX12_told 31 rfl) rfl ?_
            exact pw_iret (aX12_told 32 rfl) hok
set_option maxHeartbeats 4000000 in
set_option maxRecDepth 100000 in
theorem rX12_parts {sk : xK} {base N d : Nat} (hkb : x_kb sk base)  (n sl : Nat) (SH : Nat → Nat × Nat) (FI : Nat → Nat → Int32) (FL : Nat → Nat → Int64) (FR : Nat → Nat → Option Nat) (hok : pk n SH FR)  : pw pj_I sk base N d none 198 0 [(0, .ref (base + 121))] [] (n, sl, SH, FI, FL, FR) (RX12_parts  n sl SH FI FL FR) := by
  unfold RX12_parts
  refine pw_aloadn (aX12_parts 0 rfl) rfl ?_
  refine pw_iconst (v := (0 : Int32)) (aX12_parts 1 rfl) rfl ?_
  refine pw_putri (aX12_parts 2 rfl) uf_RX12_187 (fun _ _ _ => rfl) (fun t1 => ?_)
  refine pw_aloadn (aX12_parts 3 rfl) rfl ?_
  refine pw_getr (v := .int (FI 121 46)) (aX12_parts 4 rfl) uf_RX12_81 un_RX12_81 rfl ?_
  exact pw_iret (aX12_parts 5 rfl) hok
set_option maxHeartbeats 4000000 in
set_option maxRecDepth 100000 in
theorem rX12_part_ {sk : xK} {base N d : Nat} (hkb : x_kb sk base) (a1 : Int32) (a2 : Int32) (n sl : Nat) (SH : Nat → Nat × Nat) (FI : Nat → Nat → Int32) (FL : Nat → Nat → Int64) (FR : Nat → Nat → Option Nat) (hok : pk n SH FR)  : pw pj_J sk base N d none 199 0 [(0, .ref (base + 121)), (1, .int (a1)), (2, .int (a2))] [] (n, sl, SH, FI, FL, FR) (RX12_part_ a1 a2 n sl SH FI FL FR) := by
  unfold RX12_part_
  refine pw_aloadn (aX12_part_ 0 rfl) rfl ?_
  refine pw_iconst (v := (0 : Int32)) (aX12_part_ 1 rfl) rfl ?_
  refine pw_putri (aX12_part_ 2 rfl) uf_RX12_187 (fun _ _ _ => rfl) (fun t1 => ?_)
  refine pw_iloadn (aX12_part_ 3 rfl) rfl ?_
  refine pw_iflt (tgt := 17) (aX12_part_ 4 rfl) (by decide) (fun b1 => ?_) (fun b1 => ?_)
  · skip
    refine pw_ldc2 (v := (-1 : Int64)) (aX12_part_ 9 rfl) uk_RX12_226 ?_
    exact pw_lret (aX12_part_ 10 rfl) hok
  · skip
    refine pw_iloadn (aX12_part_ 5 rfl) rfl ?_
    refine pw_aloadn (aX12_part_ 6 rfl) rfl ?_
    refine pw_getr (v := .int (FI 121 46)) (aX12_part_ 7 rfl) uf_RX12_81 un_RX12_81 rfl ?_
    refine pw_iclt (tgt := 21) (aX12_part_ 8 rfl) (by decide) (fun b2 => ?_) (fun b2 => ?_)
    · skip
      refine pw_iloadn (aX12_part_ 11 rfl) rfl ?_
      refine pw_ifne (tgt := 33) (aX12_part_ 12 rfl) (by decide) (fun b3 => ?_) (fun b3 => ?_)
      · skip
        refine pw_aloadn (aX12_part_ 13 rfl) rfl ?_
        refine pw_getr (v := .ref (base + 143)) (aX12_part_ 14 rfl) uf_RX12_84 un_RX12_84 (congrArg (fun r => va_rf (h_rf base r)) (q121_48 (hok).2.1)) ?_
        refine pw_iloadn (aX12_part_ 15 rfl) rfl ?_
        refine pw_ialdr (c := 143) (ix := (a1).toInt.toNat) (aX12_part_ 16 rfl) rfl (fun _ => ?_)
        refine pw_i2l (aX12_part_ 17 rfl) ?_
        exact pw_lret (aX12_part_ 18 rfl) hok
      · skip
        refine pw_iloadn (aX12_part_ 19 rfl) rfl ?_
        refine pw_iconst (v := (1 : Int32)) (aX12_part_ 20 rfl) rfl ?_
        refine pw_icne (tgt := 45) (aX12_part_ 21 rfl) (by decide) (fun b4 => ?_) (fun b4 => ?_)
        · skip
          refine pw_aloadn (aX12_part_ 22 rfl) rfl ?_
          refine pw_getr (v := .ref (base + 144)) (aX12_part_ 23 rfl) uf_RX12_87 un_RX12_87 (congrArg (fun r => va_rf (h_rf base r)) (q121_49 (hok).2.1)) ?_
          refine pw_iloadn (aX12_part_ 24 rfl) rfl ?_
          refine pw_laldr (c := 144) (ix := (a1).toInt.toNat) (aX12_part_ 25 rfl) rfl (fun _ => ?_)
          exact pw_lret (aX12_part_ 26 rfl) hok
        · skip
          refine pw_iloadn (aX12_part_ 27 rfl) rfl ?_
          refine pw_iconst (v := (2 : Int32)) (aX12_part_ 28 rfl) rfl ?_
          refine pw_icne (tgt := 58) (aX12_part_ 29 rfl) (by decide) (fun b5 => ?_) (fun b5 => ?_)
          · skip
            refine pw_aloadn (aX12_part_ 30 rfl) rfl ?_
            refine pw_getr (v := .ref (base + 145)) (aX12_part_ 31 rfl) uf_RX12_90 un_RX12_90 (congrArg (fun r => va_rf (h_rf base r)) (q121_50 (hok).2.1)) ?_
            refine pw_iloadn (aX12_part_ 32 rfl) rfl ?_
            refine pw_ialdr (c := 145) (ix := (a1).toInt.toNat) (aX12_part_ 33 rfl) rfl (fun _ => ?_)
            refine pw_i2l (aX12_part_ 34 rfl) ?_
            exact pw_lret (aX12_part_ 35 rfl) hok
          · skip
            refine pw_iloadn (aX12_part_ 36 rfl) rfl ?_
            refine pw_iconst (v := (3 : Int32)) (aX12_part_ 37 rfl) rfl ?_
            refine pw_icne (tgt := 71) (aX12_part_ 38 rfl) (by decide) (fun b6 => ?_) (fun b6 => ?_)
            · skip
              refine pw_aloadn (aX12_part_ 39 rfl) rfl ?_
              refine pw_getr (v := .ref (base + 146)) (aX12_part_ 40 rfl) uf_RX12_93 un_RX12_93 (congrArg (fun r => va_rf (h_rf base r)) (q121_51 (hok).2.1)) ?_
              refine pw_iloadn (aX12_part_ 41 rfl) rfl ?_
              refine pw_ialdr (c := 146) (ix := (a1).toInt.toNat) (aX12_part_ 42 rfl) rfl (fun _ => ?_)
              refine pw_i2l (aX12_part_ 43 rfl) ?_
              exact pw_lret (aX12_part_ 44 rfl) hok
            · skip
              refine pw_iloadn (aX12_part_ 45 rfl) rfl ?_
              refine pw_bipush (v := (100 : Int32)) (aX12_part_ 46 rfl) rfl ?_
              refine pw_iclt (tgt := 119) (aX12_part_ 47 rfl) (by decide) (fun b7 => ?_) (fun b7 => ?_)
              · skip
                refine pw_ldc2 (v := (-1 : Int64)) (aX12_part_ 76 rfl) uk_RX12_226 ?_
                exact pw_lret (aX12_part_ 77 rfl) hok
              · skip
                refine pw_aloadn (aX12_part_ 48 rfl) rfl ?_
                refine pw_getr (v := .ref (base + 143)) (aX12_part_ 49 rfl) uf_RX12_84 un_RX12_84 (congrArg (fun r => va_rf (h_rf base r)) (q121_48 (hok).2.1)) ?_
                refine pw_iloadn (aX12_part_ 50 rfl) rfl ?_
                refine pw_ialdr (c := 143) (ix := (a1).toInt.toNat) (aX12_part_ 51 rfl) rfl (fun _ => ?_)
                refine pw_iconst (v := (4 : Int32)) (aX12_part_ 52 rfl) rfl ?_
                refine pw_icne (tgt := 119) (aX12_part_ 53 rfl) (by decide) (fun b8 => ?_) (fun b8 => ?_)
                · skip
                  refine pw_iloadn (aX12_part_ 54 rfl) rfl ?_
                  refine pw_bipush (v := (100 : Int32)) (aX12_part_ 55 rfl) rfl ?_
                  refine pw_isub (aX12_part_ 56 rfl) ?_
                  refine pw_i2l (aX12_part_ 57 rfl) ?_
                  refine pw_aloadn (aX12_part_ 58 rfl) rfl ?_
                  refine pw_getr (v := .ref (base + 144)) (aX12_part_ 59 rfl) uf_RX12_87 un_RX12_87 (congrArg (fun r => va_rf (h_rf base r)) (q121_49 (hok).2.1)) ?_
                  refine pw_iloadn (aX12_part_ 60 rfl) rfl ?_
                  refine pw_laldr (c := 144) (ix := (a1).toInt.toNat) (aX12_part_ 61 rfl) rfl (fun _ => ?_)
                  refine pw_lcge (tgt := 119) (aX12_part_ 62 rfl) (aX12_part_ 63 rfl) (by decide) (fun b9 => ?_) (fun b9 => ?_)
                  · skip
                    refine pw_aloadn (aX12_part_ 64 rfl) rfl ?_
                    refine pw_getr (v := .ref (base + 147)) (aX12_part_ 65 rfl) uf_RX12_96 un_RX12_96 (congrArg (fun r => va_rf (h_rf base r)) (q121_52 (hok).2.1)) ?_
                    refine pw_sipush (v := (600 : Int32)) (aX12_part_ 66 rfl) rfl ?_
                    refine pw_iloadn (aX12_part_ 67 rfl) rfl ?_
                    refine pw_imul (aX12_part_ 68 rfl) ?_
                    refine pw_iloadn (aX12_part_ 69 rfl) rfl ?_
                    refine pw_iadd (aX12_part_ 70 rfl) ?_
                    refine pw_bipush (v := (100 : Int32)) (aX12_part_ 71 rfl) rfl ?_
                    refine pw_isub (aX12_part_ 72 rfl) ?_
                    refine pw_ialdr (c := 147) (ix := (((((600 : Int32)) * (a1)) + (a2)) - ((100 : Int32))).toInt.toNat) (aX12_part_ 73 rfl) rfl (fun _ => ?_)
                    refine pw_i2l (aX12_part_ 74 rfl) ?_
                    exact pw_lret (aX12_part_ 75 rfl) hok
                  · skip
                    refine pw_ldc2 (v := (-1 : Int64)) (aX12_part_ 76 rfl) uk_RX12_226 ?_
                    exact pw_lret (aX12_part_ 77 rfl) hok
                · skip
                  refine pw_ldc2 (v := (-1 : Int64)) (aX12_part_ 76 rfl) uk_RX12_226 ?_
                  exact pw_lret (aX12_part_ 77 rfl) hok
    · skip
      refine pw_ldc2 (v := (-1 : Int64)) (aX12_part_ 9 rfl) uk_RX12_226 ?_
      exact pw_lret (aX12_part_ 10 rfl) hok
set_option maxHeartbeats 4000000 in
set_option maxRecDepth 100000 in
theorem rX12_goes_52 {sk : xK} {base N d : Nat}  (hkb : x_kb sk base)    (n sl : Nat) (SH : Nat → Nat × Nat) (FI : Nat → Nat → Int32) (FL : Nat → Nat → Int64) (FR : Nat → Nat → Option Nat) (hok : pk n SH FR)   : pw pj_I sk base N d none 200 52 [(0, .ref (base + 121))] [] (n, sl, SH, FI, FL, FR) (RX12_goes_52    n sl SH FI FL FR) := by
  unfold RX12_goes_52
  refine pw_aloadn (aX12_goes 26 rfl) rfl ?_
  refine pw_getr (v := .int (FI 121 58)) (aX12_goes 27 rfl) uf_RX12_402 un_RX12_402 rfl ?_
  refine pw_aloadn (aX12_goes 28 rfl) rfl ?_
  refine pw_getr (v := .int (FI 121 46)) (aX12_goes 29 rfl) uf_RX12_81 un_RX12_81 rfl ?_
  refine pw_icge (tgt := 67) (aX12_goes 30 rfl) (by decide) (fun b0 => ?_) (fun b0 => ?_)
  · skip
    refine pw_iconst (v := (1 : Int32)) (aX12_goes 31 rfl) rfl ?_
    refine pw_goto (tgt := 68) (aX12_goes 32 rfl) (by decide) ?_
    exact pw_iret (aX12_goes 34 rfl) hok
  · skip
    refine pw_iconst (v := (0 : Int32)) (aX12_goes 33 rfl) rfl ?_
    exact pw_iret (aX12_goes 34 rfl) hok
set_option maxHeartbeats 4000000 in
set_option maxRecDepth 100000 in
theorem bX12_goes_0 {sk : xK} {base N d : Nat} {K0 : Nat → Nat → (Nat → Nat × Nat) → (Nat → Nat → Int32) → (Nat → Nat → Int64) → (Nat → Nat → Option Nat) → Int32 → hS → Prop} (hkb : x_kb sk base)    (n sl : Nat) (SH : Nat → Nat × Nat) (FI : Nat → Nat → Int32) (FL : Nat → Nat → Int64) (FR : Nat → Nat → Option Nat) (hok : pk n SH FR)  (hK0 : ∀  (n sl : Nat) (SH : Nat → Nat × Nat) (FI : Nat → Nat → Int32) (FL : Nat → Nat → Int64) (FR : Nat → Nat → Option Nat), pk n SH FR → pw pj_I sk base N d none 200 0 [(0, .ref (base + 121))] [] (n, sl, SH, FI, FL, FR) (K0  n sl SH FI FL FR)) : pw pj_I sk base (N + 1) d none 200 0 [(0, .ref (base + 121))] [] (n, sl, SH, FI, FL, FR) (BX12_goes_0 K0   n sl SH FI FL FR) := by
  unfold BX12_goes_0
  refine pd_aloadn (aX12_goes 0 rfl) rfl ?_
  refine pw_getr (v := .int (FI 121 47)) (aX12_goes 1 rfl) uf_RX12_354 un_RX12_354 rfl ?_
  refine pw_ifeq (tgt := 52) (aX12_goes 2 rfl) (by decide) (fun b0 => ?_) (fun b0 => ?_)
  · skip
    exact pw_Li (L2 := [(0, .ref (base + 121))]) [0] (rX12_goes_52 hkb   n sl SH FI FL FR hok  ) ⟨rfl, trivial⟩
  · skip
    refine pw_aloadn (aX12_goes 3 rfl) rfl ?_
    refine pw_getr (v := .int (FI 121 58)) (aX12_goes 4 rfl) uf_RX12_402 un_RX12_402 rfl ?_
    refine pw_aloadn (aX12_goes 5 rfl) rfl ?_
    refine pw_getr (v := .int (FI 121 46)) (aX12_goes 6 rfl) uf_RX12_81 un_RX12_81 rfl ?_
    refine pw_icge (tgt := 52) (aX12_goes 7 rfl) (by decide) (fun b1 => ?_) (fun b1 => ?_)
    · skip
      refine pw_aloadn (aX12_goes 8 rfl) rfl ?_
      refine pw_getr (v := .int (FI 121 59)) (aX12_goes 9 rfl) uf_RX12_405 un_RX12_405 rfl ?_
      refine pw_aloadn (aX12_goes 10 rfl) rfl ?_
      refine pw_getr (v := .ref (base + 145)) (aX12_goes 11 rfl) uf_RX12_90 un_RX12_90 (congrArg (fun r => va_rf (h_rf base r)) (q121_50 (hok).2.1)) ?_
      refine pw_aloadn (aX12_goes 12 rfl) rfl ?_
      refine pw_getr (v := .int (FI 121 58)) (aX12_goes 13 rfl) uf_RX12_402 un_RX12_402 rfl ?_
      refine pw_ialdr (c := 145) (ix := (FI 121 58).toInt.toNat) (aX12_goes 14 rfl) rfl (fun _ => ?_)
      refine pw_iclt (tgt := 52) (aX12_goes 15 rfl) (by decide) (fun b2 => ?_) (fun b2 => ?_)
      · skip
        exact pw_Li (L2 := [(0, .ref (base + 121))]) [0] (rX12_goes_52 hkb   n sl SH FI FL FR hok  ) ⟨rfl, trivial⟩
      · skip
        refine pw_aloadn (aX12_goes 16 rfl) rfl ?_
        refine pw_aloadn (aX12_goes 17 rfl) rfl ?_
        refine pw_getr (v := .int (FI 121 58)) (aX12_goes 18 rfl) uf_RX12_402 un_RX12_402 rfl ?_
        refine pw_iconst (v := (1 : Int32)) (aX12_goes 19 rfl) rfl ?_
        refine pw_iadd (aX12_goes 20 rfl) ?_
        refine pw_putri (aX12_goes 21 rfl) uf_RX12_402 (fun _ _ _ => rfl) (fun t4 => ?_)
        refine pw_aloadn (aX12_goes 22 rfl) rfl ?_
        refine pw_iconst (v := (0 : Int32)) (aX12_goes 23 rfl) rfl ?_
        refine pw_putri (aX12_goes 24 rfl) uf_RX12_405 (fun _ _ _ => rfl) (fun t5 => ?_)
        refine pw_goto (tgt := 0) (aX12_goes 25 rfl) (by decide) ?_
        exact pw_Li (L2 := [(0, .ref (base + 121))]) [0] (hK0  n sl SH (h_up (h_up FI 121 58 ((FI 121 58) + ((1 : Int32)))) 121 59 ((0 : Int32))) FL FR hok) ⟨rfl, trivial⟩
    · skip
      exact pw_Li (L2 := [(0, .ref (base + 121))]) [0] (rX12_goes_52 hkb   n sl SH FI FL FR hok  ) ⟨rfl, trivial⟩
theorem gX12_goes_0 {sk : xK} {base d : Nat}  (hkb : x_kb sk base)  (N : Nat) :  ∀   (n sl : Nat) (SH : Nat → Nat × Nat) (FI : Nat → Nat → Int32) (FL : Nat → Nat → Int64) (FR : Nat → Nat → Option Nat), pk n SH FR → pw pj_I sk base N d none 200 0 [(0, .ref (base + 121))] [] (n, sl, SH, FI, FL, FR) (GX12_goes_0   (N + 1)  n sl SH FI FL FR) := by
  induction N with
  | zero => intros; exact pw_0
  | succ N ih => intro     n sl SH FI FL FR hok; exact bX12_goes_0 hkb    n sl SH FI FL FR hok  (ih  )
theorem rX12_goes_0 {sk : xK} {base N d : Nat}  (hkb : x_kb sk base)    (n sl : Nat) (SH : Nat → Nat × Nat) (FI : Nat → Nat → Int32) (FL : Nat → Nat → Int64) (FR : Nat → Nat → Option Nat) (hok : pk n SH FR)   : pw pj_I sk base N d none 200 0 [(0, .ref (base + 121))] [] (n, sl, SH, FI, FL, FR) (RX12_goes_0    n sl SH FI FL FR) := pw_cons (gX12_goes_0 hkb  N     n sl SH FI FL FR hok) (fun _ _ h => ⟨_, h⟩)
set_option maxHeartbeats 4000000 in
set_option maxRecDepth 100000 in
theorem rX12_goes {sk : xK} {base N d : Nat} (hkb : x_kb sk base)  (n sl : Nat) (SH : Nat → Nat × Nat) (FI : Nat → Nat → Int32) (FL : Nat → Nat → Int64) (FR : Nat → Nat → Option Nat) (hok : pk n SH FR)  : pw pj_I sk base N d none 200 0 [(0, .ref (base + 121))] [] (n, sl, SH, FI, FL, FR) (RX12_goes  n sl SH FI FL FR) := by
  unfold RX12_goes
  exact pw_Li (L2 := [(0, .ref (base + 121))]) [0] (rX12_goes_0 hkb   n sl SH FI FL FR hok  ) ⟨rfl, trivial⟩
set_option maxHeartbeats 4000000 in
set_option maxRecDepth 100000 in
theorem rX12_bit {sk : xK} {base N d : Nat} (hkb : x_kb sk base) (a1 : Int32) (a2 : Int64) (n sl : Nat) (SH : Nat → Nat × Nat) (FI : Nat → Nat → Int32) (FL : Nat → Nat → Int64) (FR : Nat → Nat → Option Nat) (hok : pk n SH FR)  : pw pj_I sk base N d none 201 0 [(0, .ref (base + 121)), (1, .int (a1)), (2, .long (a2))] [] (n, sl, SH, FI, FL, FR) (P_ret (fX12_bit a1 a2 SH FI FL FR) (n, sl, SH, FI, FL, FR)) := by
  unfold fX12_bit
  refine pw_aloadn (aX12_bit 0 rfl) rfl ?_
  refine pw_getr (v := .ref (base + 143)) (aX12_bit 1 rfl) uf_RX12_84 un_RX12_84 (congrArg (fun r => va_rf (h_rf base r)) (q121_48 (hok).2.1)) ?_
  refine pw_iloadn (aX12_bit 2 rfl) rfl ?_
  refine pw_sd (pw_ialdr (c := 143) (ix := (a1).toInt.toNat) (aX12_bit 3 rfl) rfl (fun _ => ?_))
  refine pw_istore (L2 := [(4, .int (FI 143 (a1).toInt.toNat)), (0, .ref (base + 121)), (1, .int (a1)), (2, .long (a2))]) (aX12_bit 4 rfl) rfl ?_
  refine pw_iload (aX12_bit 5 rfl) rfl ?_
  refine pw_iconst (v := (1 : Int32)) (aX12_bit 6 rfl) rfl ?_
  refine pw_ite (pw_icne (tgt := 64) (aX12_bit 7 rfl) (by decide) (fun b0 => ?_) (fun b0 => ?_))
  · skip
    refine pw_aloadn (aX12_bit 8 rfl) rfl ?_
    refine pw_getr (v := .ref (base + 144)) (aX12_bit 9 rfl) uf_RX12_87 un_RX12_87 (congrArg (fun r => va_rf (h_rf base r)) (q121_49 (hok).2.1)) ?_
    refine pw_iloadn (aX12_bit 10 rfl) rfl ?_
    refine pw_sd (pw_laldr (c := 144) (ix := (a1).toInt.toNat) (aX12_bit 11 rfl) rfl (fun _ => ?_))
    refine pw_lloadn (aX12_bit 12 rfl) rfl ?_
    refine pw_ldc2 (v := (8 : Int64)) (aX12_bit 13 rfl) uk_RX12_315 ?_
    refine pw_sd (pw_ldiv (aX12_bit 14 rfl) (fun _ => ?_))
    refine pw_ladd (aX12_bit 15 rfl) ?_
    refine pw_lstore (L2 := [(5, .long ((FL 144 (a1).toInt.toNat) + ((a2) / ((8 : Int64))))), (4, .int (FI 143 (a1).toInt.toNat)), (0, .ref (base + 121)), (1, .int (a1)), (2, .long (a2))]) (aX12_bit 16 rfl) rfl ?_
    refine pw_lload (aX12_bit 17 rfl) rfl ?_
    refine pw_lconst (v := (0 : Int64)) (aX12_bit 18 rfl) rfl ?_
    refine pw_ite (pw_lclt (tgt := 44) (aX12_bit 19 rfl) (aX12_bit 20 rfl) (by decide) (fun b1 => ?_) (fun b1 => ?_))
    · skip
      refine pw_iconst (v := (-1 : Int32)) (aX12_bit 25 rfl) rfl ?_
      exact pw_iret (aX12_bit 26 rfl) hok
    · skip
      refine pw_lload (aX12_bit 21 rfl) rfl ?_
      refine pw_ldc2 (v := (4095 : Int64)) (aX12_bit 22 rfl) uk_RX12_408 ?_
      refine pw_ite (pw_lcle (tgt := 46) (aX12_bit 23 rfl) (aX12_bit 24 rfl) (by decide) (fun b2 => ?_) (fun b2 => ?_))
      · skip
        refine pw_iconst (v := (-1 : Int32)) (aX12_bit 25 rfl) rfl ?_
        exact pw_iret (aX12_bit 26 rfl) hok
      · skip
        refine pw_aloadn (aX12_bit 27 rfl) rfl ?_
        refine pw_getr (v := .ref (base + 123)) (aX12_bit 28 rfl) uf_RX12_13 un_RX12_13 (congrArg (fun r => va_rf (h_rf base r)) (q121_2 (hok).2.1)) ?_
        refine pw_lload (aX12_bit 29 rfl) rfl ?_
        refine pw_l2i (aX12_bit 30 rfl) ?_
        refine pw_sd (pw_ialdr (c := 123) (ix := (((FL 144 (a1).toInt.toNat) + ((a2) / ((8 : Int64)))).toInt32).toInt.toNat) (aX12_bit 31 rfl) rfl (fun _ => ?_))
        refine pw_lloadn (aX12_bit 32 rfl) rfl ?_
        refine pw_ldc2 (v := (8 : Int64)) (aX12_bit 33 rfl) uk_RX12_315 ?_
        refine pw_sd (pw_lrem (aX12_bit 34 rfl) (fun _ => ?_))
        refine pw_l2i (aX12_bit 35 rfl) ?_
        refine pw_ishr (aX12_bit 36 rfl) ?_
        refine pw_iconst (v := (1 : Int32)) (aX12_bit 37 rfl) rfl ?_
        refine pw_iand (aX12_bit 38 rfl) ?_
        exact pw_iret (aX12_bit 39 rfl) hok
  · skip
    refine pw_iload (aX12_bit 40 rfl) rfl ?_
    refine pw_iconst (v := (2 : Int32)) (aX12_bit 41 rfl) rfl ?_
    refine pw_ite (pw_iceq (tgt := 76) (aX12_bit 42 rfl) (by decide) (fun b3 => ?_) (fun b3 => ?_))
    · skip
      refine pw_lloadn (aX12_bit 46 rfl) rfl ?_
      refine pw_ldc2 (v := (63 : Int64)) (aX12_bit 47 rfl) uk_RX12_250 ?_
      refine pw_ite (pw_lcle (tgt := 86) (aX12_bit 48 rfl) (aX12_bit 49 rfl) (by decide) (fun b4 => ?_) (fun b4 => ?_))
      · skip
        refine pw_iconst (v := (-1 : Int32)) (aX12_bit 50 rfl) rfl ?_
        exact pw_iret (aX12_bit 51 rfl) hok
      · skip
        refine pw_iload (aX12_bit 52 rfl) rfl ?_
        refine pw_iconst (v := (2 : Int32)) (aX12_bit 53 rfl) rfl ?_
        refine pw_ite (pw_icne (tgt := 107) (aX12_bit 54 rfl) (by decide) (fun b5 => ?_) (fun b5 => ?_))
        · skip
          refine pw_aloadn (aX12_bit 55 rfl) rfl ?_
          refine pw_getr (v := .ref (base + 122)) (aX12_bit 56 rfl) uf_RX12_7 un_RX12_7 (congrArg (fun r => va_rf (h_rf base r)) (q121_1 (hok).2.1)) ?_
          refine pw_aloadn (aX12_bit 57 rfl) rfl ?_
          refine pw_getr (v := .ref (base + 144)) (aX12_bit 58 rfl) uf_RX12_87 un_RX12_87 (congrArg (fun r => va_rf (h_rf base r)) (q121_49 (hok).2.1)) ?_
          refine pw_iloadn (aX12_bit 59 rfl) rfl ?_
          refine pw_sd (pw_laldr (c := 144) (ix := (a1).toInt.toNat) (aX12_bit 60 rfl) rfl (fun _ => ?_))
          refine pw_l2i (aX12_bit 61 rfl) ?_
          refine pw_sd (pw_laldr (c := 122) (ix := ((FL 144 (a1).toInt.toNat).toInt32).toInt.toNat) (aX12_bit 62 rfl) rfl (fun _ => ?_))
          refine pw_goto (tgt := 113) (aX12_bit 63 rfl) (by decide) ?_
          refine pw_lstore (L2 := [(5, .long (FL 122 ((FL 144 (a1).toInt.toNat).toInt32).toInt.toNat)), (4, .int (FI 143 (a1).toInt.toNat)), (0, .ref (base + 121)), (1, .int (a1)), (2, .long (a2))]) (aX12_bit 68 rfl) rfl ?_
          refine pw_lload (aX12_bit 69 rfl) rfl ?_
          refine pw_lloadn (aX12_bit 70 rfl) rfl ?_
          refine pw_l2i (aX12_bit 71 rfl) ?_
          refine pw_lshr (aX12_bit 72 rfl) ?_
          refine pw_lconst (v := (1 : Int64)) (aX12_bit 73 rfl) rfl ?_
          refine pw_land (aX12_bit 74 rfl) ?_
          refine pw_l2i (aX12_bit 75 rfl) ?_
          exact pw_iret (aX12_bit 76 rfl) hok
        · skip
          refine pw_aloadn (aX12_bit 64 rfl) rfl ?_
          refine pw_getr (v := .ref (base + 144)) (aX12_bit 65 rfl) uf_RX12_87 un_RX12_87 (congrArg (fun r => va_rf (h_rf base r)) (q121_49 (hok).2.1)) ?_
          refine pw_iloadn (aX12_bit 66 rfl) rfl ?_
          refine pw_sd (pw_laldr (c := 144) (ix := (a1).toInt.toNat) (aX12_bit 67 rfl) rfl (fun _ => ?_))
          refine pw_lstore (L2 := [(5, .long (FL 144 (a1).toInt.toNat)), (4, .int (FI 143 (a1).toInt.toNat)), (0, .ref (base + 121)), (1, .int (a1)), (2, .long (a2))]) (aX12_bit 68 rfl) rfl ?_
          refine pw_lload (aX12_bit 69 rfl) rfl ?_
          refine pw_lloadn (aX12_bit 70 rfl) rfl ?_
          refine pw_l2i (aX12_bit 71 rfl) ?_
          refine pw_lshr (aX12_bit 72 rfl) ?_
          refine pw_lconst (v := (1 : Int64)) (aX12_bit 73 rfl) rfl ?_
          refine pw_land (aX12_bit 74 rfl) ?_
          refine pw_l2i (aX12_bit 75 rfl) ?_
          exact pw_iret (aX12_bit 76 rfl) hok
    · skip
      refine pw_iload (aX12_bit 43 rfl) rfl ?_
      refine pw_iconst (v := (3 : Int32)) (aX12_bit 44 rfl) rfl ?_
      refine pw_ite (pw_icne (tgt := 124) (aX12_bit 45 rfl) (by decide) (fun b6 => ?_) (fun b6 => ?_))
      · skip
        refine pw_lloadn (aX12_bit 46 rfl) rfl ?_
        refine pw_ldc2 (v := (63 : Int64)) (aX12_bit 47 rfl) uk_RX12_250 ?_
        refine pw_ite (pw_lcle (tgt := 86) (aX12_bit 48 rfl) (aX12_bit 49 rfl) (by decide) (fun b7 => ?_) (fun b7 => ?_))
        · skip
          refine pw_iconst (v := (-1 : Int32)) (aX12_bit 50 rfl) rfl ?_
          exact pw_iret (aX12_bit 51 rfl) hok
        · skip
          refine pw_iload (aX12_bit 52 rfl) rfl ?_
          refine pw_iconst (v := (2 : Int32)) (aX12_bit 53 rfl) rfl ?_
          refine pw_ite (pw_icne (tgt := 107) (aX12_bit 54 rfl) (by decide) (fun b8 => ?_) (fun b8 => ?_))
          · skip
            refine pw_aloadn (aX12_bit 55 rfl) rfl ?_
            refine pw_getr (v := .ref (base + 122)) (aX12_bit 56 rfl) uf_RX12_7 un_RX12_7 (congrArg (fun r => va_rf (h_rf base r)) (q121_1 (hok).2.1)) ?_
            refine pw_aloadn (aX12_bit 57 rfl) rfl ?_
            refine pw_getr (v := .ref (base + 144)) (aX12_bit 58 rfl) uf_RX12_87 un_RX12_87 (congrArg (fun r => va_rf (h_rf base r)) (q121_49 (hok).2.1)) ?_
            refine pw_iloadn (aX12_bit 59 rfl) rfl ?_
            refine pw_sd (pw_laldr (c := 144) (ix := (a1).toInt.toNat) (aX12_bit 60 rfl) rfl (fun _ => ?_))
            refine pw_l2i (aX12_bit 61 rfl) ?_
            refine pw_sd (pw_laldr (c := 122) (ix := ((FL 144 (a1).toInt.toNat).toInt32).toInt.toNat) (aX12_bit 62 rfl) rfl (fun _ => ?_))
            refine pw_goto (tgt := 113) (aX12_bit 63 rfl) (by decide) ?_
            refine pw_lstore (L2 := [(5, .long (FL 122 ((FL 144 (a1).toInt.toNat).toInt32).toInt.toNat)), (4, .int (FI 143 (a1).toInt.toNat)), (0, .ref (base + 121)), (1, .int (a1)), (2, .long (a2))]) (aX12_bit 68 rfl) rfl ?_
            refine pw_lload (aX12_bit 69 rfl) rfl ?_
            refine pw_lloadn (aX12_bit 70 rfl) rfl ?_
            refine pw_l2i (aX12_bit 71 rfl) ?_
            refine pw_lshr (aX12_bit 72 rfl) ?_
            refine pw_lconst (v := (1 : Int64)) (aX12_bit 73 rfl) rfl ?_
            refine pw_land (aX12_bit 74 rfl) ?_
            refine pw_l2i (aX12_bit 75 rfl) ?_
            exact pw_iret (aX12_bit 76 rfl) hok
          · skip
            refine pw_aloadn (aX12_bit 64 rfl) rfl ?_
            refine pw_getr (v := .ref (base + 144)) (aX12_bit 65 rfl) uf_RX12_87 un_RX12_87 (congrArg (fun r => va_rf (h_rf base r)) (q121_49 (hok).2.1)) ?_
            refine pw_iloadn (aX12_bit 66 rfl) rfl ?_
            refine pw_sd (pw_laldr (c := 144) (ix := (a1).toInt.toNat) (aX12_bit 67 rfl) rfl (fun _ => ?_))
            refine pw_lstore (L2 := [(5, .long (FL 144 (a1).toInt.toNat)), (4, .int (FI 143 (a1).toInt.toNat)), (0, .ref (base + 121)), (1, .int (a1)), (2, .long (a2))]) (aX12_bit 68 rfl) rfl ?_
            refine pw_lload (aX12_bit 69 rfl) rfl ?_
            refine pw_lloadn (aX12_bit 70 rfl) rfl ?_
            refine pw_l2i (aX12_bit 71 rfl) ?_
            refine pw_lshr (aX12_bit 72 rfl) ?_
            refine pw_lconst (v := (1 : Int64)) (aX12_bit 73 rfl) rfl ?_
            refine pw_land (aX12_bit 74 rfl) ?_
            refine pw_l2i (aX12_bit 75 rfl) ?_
            exact pw_iret (aX12_bit 76 rfl) hok
      · skip
        refine pw_iload (aX12_bit 77 rfl) rfl ?_
        refine pw_iconst (v := (4 : Int32)) (aX12_bit 78 rfl) rfl ?_
        refine pw_ite (pw_icne (tgt := 172) (aX12_bit 79 rfl) (by decide) (fun b9 => ?_) (fun b9 => ?_))
        · skip
          refine pw_lloadn (aX12_bit 80 rfl) rfl ?_
          refine pw_ldc2 (v := (8 : Int64)) (aX12_bit 81 rfl) uk_RX12_315 ?_
          refine pw_sd (pw_ldiv (aX12_bit 82 rfl) (fun _ => ?_))
          refine pw_aloadn (aX12_bit 83 rfl) rfl ?_
          refine pw_getr (v := .ref (base + 144)) (aX12_bit 84 rfl) uf_RX12_87 un_RX12_87 (congrArg (fun r => va_rf (h_rf base r)) (q121_49 (hok).2.1)) ?_
          refine pw_iloadn (aX12_bit 85 rfl) rfl ?_
          refine pw_sd (pw_laldr (c := 144) (ix := (a1).toInt.toNat) (aX12_bit 86 rfl) rfl (fun _ => ?_))
          refine pw_ite (pw_lcge (tgt := 172) (aX12_bit 87 rfl) (aX12_bit 88 rfl) (by decide) (fun b10 => ?_) (fun b10 => ?_))
          · skip
            refine pw_aloadn (aX12_bit 89 rfl) rfl ?_
            refine pw_getr (v := .ref (base + 147)) (aX12_bit 90 rfl) uf_RX12_96 un_RX12_96 (congrArg (fun r => va_rf (h_rf base r)) (q121_52 (hok).2.1)) ?_
            refine pw_sipush (v := (600 : Int32)) (aX12_bit 91 rfl) rfl ?_
            refine pw_iloadn (aX12_bit 92 rfl) rfl ?_
            refine pw_imul (aX12_bit 93 rfl) ?_
            refine pw_lloadn (aX12_bit 94 rfl) rfl ?_
            refine pw_ldc2 (v := (8 : Int64)) (aX12_bit 95 rfl) uk_RX12_315 ?_
            refine pw_sd (pw_ldiv (aX12_bit 96 rfl) (fun _ => ?_))
            refine pw_l2i (aX12_bit 97 rfl) ?_
            refine pw_iadd (aX12_bit 98 rfl) ?_
            refine pw_sd (pw_ialdr (c := 147) (ix := ((((600 : Int32)) * (a1)) + (((a2) / ((8 : Int64))).toInt32)).toInt.toNat) (aX12_bit 99 rfl) rfl (fun _ => ?_))
            refine pw_lloadn (aX12_bit 100 rfl) rfl ?_
            refine pw_ldc2 (v := (8 : Int64)) (aX12_bit 101 rfl) uk_RX12_315 ?_
            refine pw_sd (pw_lrem (aX12_bit 102 rfl) (fun _ => ?_))
            refine pw_l2i (aX12_bit 103 rfl) ?_
            refine pw_ishr (aX12_bit 104 rfl) ?_
            refine pw_iconst (v := (1 : Int32)) (aX12_bit 105 rfl) rfl ?_
            refine pw_iand (aX12_bit 106 rfl) ?_
            exact pw_iret (aX12_bit 107 rfl) hok
          · skip
            refine pw_iconst (v := (-1 : Int32)) (aX12_bit 108 rfl) rfl ?_
            exact pw_iret (aX12_bit 109 rfl) hok
        · skip
          refine pw_iconst (v := (-1 : Int32)) (aX12_bit 108 rfl) rfl ?_
          exact pw_iret (aX12_bit 109 rfl) hok
set_option maxHeartbeats 4000000 in
set_option maxRecDepth 100000 in
theorem rX12_puts_ {sk : xK} {base N d : Nat} (hkb : x_kb sk base) (a1 : Int32) (a2 : Int64) (a3 : Int32) (n sl : Nat) (SH : Nat → Nat × Nat) (FI : Nat → Nat → Int32) (FL : Nat → Nat → Int64) (FR : Nat → Nat → Option Nat) (hok : pk n SH FR)  : pw pj_I sk base N d none 202 0 [(0, .ref (base + 121)), (1, .int (a1)), (2, .long (a2)), (4, .int (a3))] [] (n, sl, SH, FI, FL, FR) (RX12_puts_ a1 a2 a3 n sl SH FI FL FR) := by
  unfold RX12_puts_
  refine pw_aloadn (aX12_puts_ 0 rfl) rfl ?_
  refine pw_getr (v := .ref (base + 143)) (aX12_puts_ 1 rfl) uf_RX12_84 un_RX12_84 (congrArg (fun r => va_rf (h_rf base r)) (q121_48 (hok).2.1)) ?_
  refine pw_iloadn (aX12_puts_ 2 rfl) rfl ?_
  refine pw_ialdr (c := 143) (ix := (a1).toInt.toNat) (aX12_puts_ 3 rfl) rfl (fun _ => ?_)
  refine pw_istore (L2 := [(5, .int (FI 143 (a1).toInt.toNat)), (0, .ref (base + 121)), (1, .int (a1)), (2, .long (a2)), (4, .int (a3))]) (aX12_puts_ 4 rfl) rfl ?_
  refine pw_iload (aX12_puts_ 5 rfl) rfl ?_
  refine pw_iconst (v := (1 : Int32)) (aX12_puts_ 6 rfl) rfl ?_
  refine pw_icne (tgt := 85) (aX12_puts_ 7 rfl) (by decide) (fun b0 => ?_) (fun b0 => ?_)
  · skip
    refine pw_aloadn (aX12_puts_ 8 rfl) rfl ?_
    refine pw_getr (v := .ref (base + 144)) (aX12_puts_ 9 rfl) uf_RX12_87 un_RX12_87 (congrArg (fun r => va_rf (h_rf base r)) (q121_49 (hok).2.1)) ?_
    refine pw_iloadn (aX12_puts_ 10 rfl) rfl ?_
    refine pw_laldr (c := 144) (ix := (a1).toInt.toNat) (aX12_puts_ 11 rfl) rfl (fun _ => ?_)
    refine pw_lloadn (aX12_puts_ 12 rfl) rfl ?_
    refine pw_ldc2 (v := (8 : Int64)) (aX12_puts_ 13 rfl) uk_RX12_315 ?_
    refine pw_ldiv (aX12_puts_ 14 rfl) (fun _ => ?_)
    refine pw_ladd (aX12_puts_ 15 rfl) ?_
    refine pw_lstore (L2 := [(6, .long ((FL 144 (a1).toInt.toNat) + ((a2) / ((8 : Int64))))), (5, .int (FI 143 (a1).toInt.toNat)), (0, .ref (base + 121)), (1, .int (a1)), (2, .long (a2)), (4, .int (a3))]) (aX12_puts_ 16 rfl) rfl ?_
    refine pw_lload (aX12_puts_ 17 rfl) rfl ?_
    refine pw_lconst (v := (0 : Int64)) (aX12_puts_ 18 rfl) rfl ?_
    refine pw_lclt (tgt := 44) (aX12_puts_ 19 rfl) (aX12_puts_ 20 rfl) (by decide) (fun b1 => ?_) (fun b1 => ?_)
    · skip
      refine pw_iconst (v := (0 : Int32)) (aX12_puts_ 25 rfl) rfl ?_
      exact pw_iret (aX12_puts_ 26 rfl) hok
    · skip
      refine pw_lload (aX12_puts_ 21 rfl) rfl ?_
      refine pw_ldc2 (v := (4095 : Int64)) (aX12_puts_ 22 rfl) uk_RX12_408 ?_
      refine pw_lcle (tgt := 46) (aX12_puts_ 23 rfl) (aX12_puts_ 24 rfl) (by decide) (fun b2 => ?_) (fun b2 => ?_)
      · skip
        refine pw_iconst (v := (0 : Int32)) (aX12_puts_ 25 rfl) rfl ?_
        exact pw_iret (aX12_puts_ 26 rfl) hok
      · skip
        refine pw_lloadn (aX12_puts_ 27 rfl) rfl ?_
        refine pw_ldc2 (v := (8 : Int64)) (aX12_puts_ 28 rfl) uk_RX12_315 ?_
        refine pw_lrem (aX12_puts_ 29 rfl) (fun _ => ?_)
        refine pw_l2i (aX12_puts_ 30 rfl) ?_
        refine pw_istore (L2 := [(8, .int (((a2) - (a2) / ((8 : Int64)) * ((8 : Int64))).toInt32)), (6, .long ((FL 144 (a1).toInt.toNat) + ((a2) / ((8 : Int64))))), (5, .int (FI 143 (a1).toInt.toNat)), (0, .ref (base + 121)), (1, .int (a1)), (2, .long (a2)), (4, .int (a3))]) (aX12_puts_ 31 rfl) rfl ?_
        refine pw_aloadn (aX12_puts_ 32 rfl) rfl ?_
        refine pw_getr (v := .ref (base + 123)) (aX12_puts_ 33 rfl) uf_RX12_13 un_RX12_13 (congrArg (fun r => va_rf (h_rf base r)) (q121_2 (hok).2.1)) ?_
        refine pw_lload (aX12_puts_ 34 rfl) rfl ?_
        refine pw_l2i (aX12_puts_ 35 rfl) ?_
        refine pw_aloadn (aX12_puts_ 36 rfl) rfl ?_
        refine pw_getr (v := .ref (base + 123)) (aX12_puts_ 37 rfl) uf_RX12_13 un_RX12_13 (congrArg (fun r => va_rf (h_rf base r)) (q121_2 (hok).2.1)) ?_
        refine pw_lload (aX12_puts_ 38 rfl) rfl ?_
        refine pw_l2i (aX12_puts_ 39 rfl) ?_
        refine pw_ialdr (c := 123) (ix := (((FL 144 (a1).toInt.toNat) + ((a2) / ((8 : Int64)))).toInt32).toInt.toNat) (aX12_puts_ 40 rfl) rfl (fun _ => ?_)
        refine pw_iconst (v := (1 : Int32)) (aX12_puts_ 41 rfl) rfl ?_
        refine pw_iload (aX12_puts_ 42 rfl) rfl ?_
        refine pw_ishl (aX12_puts_ 43 rfl) ?_
        refine pw_iconst (v := (-1 : Int32)) (aX12_puts_ 44 rfl) rfl ?_
        refine pw_ixor (aX12_puts_ 45 rfl) ?_
        refine pw_iand (aX12_puts_ 46 rfl) ?_
        refine pw_iload (aX12_puts_ 47 rfl) rfl ?_
        refine pw_iload (aX12_puts_ 48 rfl) rfl ?_
        refine pw_ishl (aX12_puts_ 49 rfl) ?_
        refine pw_ior (aX12_puts_ 50 rfl) ?_
        refine pw_iastr (c := 123) (ix := (((FL 144 (a1).toInt.toNat) + ((a2) / ((8 : Int64)))).toInt32).toInt.toNat) (aX12_puts_ 51 rfl) rfl (fun _ => ?_)
        refine pw_iconst (v := (1 : Int32)) (aX12_puts_ 52 rfl) rfl ?_
        exact pw_iret (aX12_puts_ 53 rfl) hok
  · skip
    refine pw_iload (aX12_puts_ 54 rfl) rfl ?_
    refine pw_iconst (v := (2 : Int32)) (aX12_puts_ 55 rfl) rfl ?_
    refine pw_icne (tgt := 99) (aX12_puts_ 56 rfl) (by decide) (fun b3 => ?_) (fun b3 => ?_)
    · skip
      refine pw_lloadn (aX12_puts_ 57 rfl) rfl ?_
      refine pw_ldc2 (v := (63 : Int64)) (aX12_puts_ 58 rfl) uk_RX12_250 ?_
      refine pw_lcle (tgt := 101) (aX12_puts_ 59 rfl) (aX12_puts_ 60 rfl) (by decide) (fun b4 => ?_) (fun b4 => ?_)
      · skip
        refine pw_iconst (v := (0 : Int32)) (aX12_puts_ 61 rfl) rfl ?_
        exact pw_iret (aX12_puts_ 62 rfl) hok
      · skip
        refine pw_aloadn (aX12_puts_ 63 rfl) rfl ?_
        refine pw_getr (v := .ref (base + 144)) (aX12_puts_ 64 rfl) uf_RX12_87 un_RX12_87 (congrArg (fun r => va_rf (h_rf base r)) (q121_49 (hok).2.1)) ?_
        refine pw_iloadn (aX12_puts_ 65 rfl) rfl ?_
        refine pw_laldr (c := 144) (ix := (a1).toInt.toNat) (aX12_puts_ 66 rfl) rfl (fun _ => ?_)
        refine pw_l2i (aX12_puts_ 67 rfl) ?_
        refine pw_istore (L2 := [(6, .int ((FL 144 (a1).toInt.toNat).toInt32)), (5, .int (FI 143 (a1).toInt.toNat)), (0, .ref (base + 121)), (1, .int (a1)), (2, .long (a2)), (4, .int (a3))]) (aX12_puts_ 68 rfl) rfl ?_
        refine pw_aloadn (aX12_puts_ 69 rfl) rfl ?_
        refine pw_getr (v := .ref (base + 122)) (aX12_puts_ 70 rfl) uf_RX12_7 un_RX12_7 (congrArg (fun r => va_rf (h_rf base r)) (q121_1 (hok).2.1)) ?_
        refine pw_iload (aX12_puts_ 71 rfl) rfl ?_
        refine pw_aloadn (aX12_puts_ 72 rfl) rfl ?_
        refine pw_getr (v := .ref (base + 122)) (aX12_puts_ 73 rfl) uf_RX12_7 un_RX12_7 (congrArg (fun r => va_rf (h_rf base r)) (q121_1 (hok).2.1)) ?_
        refine pw_iload (aX12_puts_ 74 rfl) rfl ?_
        refine pw_laldr (c := 122) (ix := ((FL 144 (a1).toInt.toNat).toInt32).toInt.toNat) (aX12_puts_ 75 rfl) rfl (fun _ => ?_)
        refine pw_lconst (v := (1 : Int64)) (aX12_puts_ 76 rfl) rfl ?_
        refine pw_lloadn (aX12_puts_ 77 rfl) rfl ?_
        refine pw_l2i (aX12_puts_ 78 rfl) ?_
        refine pw_lshl (aX12_puts_ 79 rfl) ?_
        refine pw_ldc2 (v := (-1 : Int64)) (aX12_puts_ 80 rfl) uk_RX12_226 ?_
        refine pw_lxor (aX12_puts_ 81 rfl) ?_
        refine pw_land (aX12_puts_ 82 rfl) ?_
        refine pw_iload (aX12_puts_ 83 rfl) rfl ?_
        refine pw_i2l (aX12_puts_ 84 rfl) ?_
        refine pw_lloadn (aX12_puts_ 85 rfl) rfl ?_
        refine pw_l2i (aX12_puts_ 86 rfl) ?_
        refine pw_lshl (aX12_puts_ 87 rfl) ?_
        refine pw_lor (aX12_puts_ 88 rfl) ?_
        refine pw_lastr (c := 122) (ix := ((FL 144 (a1).toInt.toNat).toInt32).toInt.toNat) (aX12_puts_ 89 rfl) rfl (fun _ => ?_)
        refine pw_iconst (v := (1 : Int32)) (aX12_puts_ 90 rfl) rfl ?_
        exact pw_iret (aX12_puts_ 91 rfl) hok
    · skip
      refine pw_iconst (v := (0 : Int32)) (aX12_puts_ 61 rfl) rfl ?_
      exact pw_iret (aX12_puts_ 62 rfl) hok
set_option maxHeartbeats 4000000 in
set_option maxRecDepth 100000 in
theorem rX12_fetch_141 {sk : xK} {base N d : Nat} {K67 : Int32 → Int32 → Nat → Nat → (Nat → Nat × Nat) → (Nat → Nat → Int32) → (Nat → Nat → Int64) → (Nat → Nat → Option Nat) → Int32 → hS → Prop} (hkb : x_kb sk base) (a1 : Int32) (l2i : Int32) (l3i : Int32) (l4i : Int32) (n sl : Nat) (SH : Nat → Nat × Nat) (FI : Nat → Nat → Int32) (FL : Nat → Nat → Int64) (FR : Nat → Nat → Option Nat) (hok : pk n SH FR)  (hK67 : ∀ (l2i : Int32) (l3i : Int32) (l4i : Int32) (n sl : Nat) (SH : Nat → Nat × Nat) (FI : Nat → Nat → Int32) (FL : Nat → Nat → Int64) (FR : Nat → Nat → Option Nat), pk n SH FR → pw pj_I sk base N d none 203 67 [(0, .ref (base + 121)), (1, .int (a1)), (2, .int (l2i)), (3, .int (l3i)), (4, .int (l4i))] [] (n, sl, SH, FI, FL, FR) (K67 l2i l3i n sl SH FI FL FR)) : pw pj_I sk base N d none 203 141 [(0, .ref (base + 121)), (1, .int (a1)), (2, .int (l2i)), (3, .int (l3i)), (4, .int (l4i))] [] (n, sl, SH, FI, FL, FR) (RX12_fetch_141 K67 a1 l2i l3i n sl SH FI FL FR) := by
  unfold RX12_fetch_141
  refine pw_aloadn (aX12_fetch 87 rfl) rfl ?_
  refine pw_aloadn (aX12_fetch 88 rfl) rfl ?_
  refine pw_getr (v := .int (FI 121 59)) (aX12_fetch 89 rfl) uf_RX12_405 un_RX12_405 rfl ?_
  refine pw_iconst (v := (1 : Int32)) (aX12_fetch 90 rfl) rfl ?_
  refine pw_iadd (aX12_fetch 91 rfl) ?_
  refine pw_putri (aX12_fetch 92 rfl) uf_RX12_405 (fun _ _ _ => rfl) (fun t1 => ?_)
  refine pw_iinc (v := (l3i) + (1 : Int32)) (L2 := [(3, .int ((l3i) + (1 : Int32))), (0, .ref (base + 121)), (1, .int (a1)), (2, .int (l2i)), (4, .int (l4i))]) (aX12_fetch 93 rfl) rfl rfl rfl ?_
  refine pw_goto (tgt := 67) (aX12_fetch 94 rfl) (by decide) ?_
  exact pw_Li (L2 := [(0, .ref (base + 121)), (1, .int (a1)), (2, .int (l2i)), (3, .int ((l3i) + (1 : Int32))), (4, .int (l4i))]) [3, 0, 1, 2, 4] (hK67 (l2i) ((l3i) + (1 : Int32)) (l4i) n sl SH (h_up FI 121 59 ((FI 121 59) + ((1 : Int32)))) FL FR hok) ⟨rfl, rfl, rfl, rfl, rfl, trivial⟩
set_option maxHeartbeats 4000000 in
set_option maxRecDepth 100000 in
theorem bX12_fetch_67 {sk : xK} {base N d : Nat} {K67 : Int32 → Int32 → Nat → Nat → (Nat → Nat × Nat) → (Nat → Nat → Int32) → (Nat → Nat → Int64) → (Nat → Nat → Option Nat) → Int32 → hS → Prop} (hkb : x_kb sk base) (a1 : Int32) (l2i : Int32) (l3i : Int32) (l4i : Int32) (n sl : Nat) (SH : Nat → Nat × Nat) (FI : Nat → Nat → Int32) (FL : Nat → Nat → Int64) (FR : Nat → Nat → Option Nat) (hok : pk n SH FR)  (hK67 : ∀ (l2i : Int32) (l3i : Int32) (l4i : Int32) (n sl : Nat) (SH : Nat → Nat × Nat) (FI : Nat → Nat → Int32) (FL : Nat → Nat → Int64) (FR : Nat → Nat → Option Nat), pk n SH FR → pw pj_I sk base N d none 203 67 [(0, .ref (base + 121)), (1, .int (a1)), (2, .int (l2i)), (3, .int (l3i)), (4, .int (l4i))] [] (n, sl, SH, FI, FL, FR) (K67 l2i l3i n sl SH FI FL FR)) : pw pj_I sk base (N + 1) d none 203 67 [(0, .ref (base + 121)), (1, .int (a1)), (2, .int (l2i)), (3, .int (l3i)), (4, .int (l4i))] [] (n, sl, SH, FI, FL, FR) (BX12_fetch_67 K67 a1 l2i l3i n sl SH FI FL FR) := by
  unfold BX12_fetch_67
  refine pd_iloadn (aX12_fetch 41 rfl) rfl ?_
  refine pw_iloadn (aX12_fetch 42 rfl) rfl ?_
  refine pw_icge (tgt := 157) (aX12_fetch 43 rfl) (by decide) (fun b0 => ?_) (fun b0 => ?_)
  · skip
    refine pw_aloadn (aX12_fetch 44 rfl) rfl ?_
    refine pw_callV (Bs := []) (rest := []) (aX12_fetch 45 rfl) um_RX12_413 ujX12_goes wc_RX12_413.2.2.2.2 (by decide) (by decide) rfl rfl (fun d => rX12_goes hkb  n sl SH FI FL FR hok) (fun v1 n1 sl1 SH1 FI1 FL1 FR1 hok1 _ => ?_)
    show pw _ _ _ _ _ _ _ 76 _ [.int (v1)] _ _
    refine pw_ifeq (tgt := 157) (aX12_fetch 46 rfl) (by decide) (fun b2 => ?_) (fun b2 => ?_)
    · skip
      refine pw_iloadn (aX12_fetch 95 rfl) rfl ?_
      exact pw_iret (aX12_fetch 96 rfl) hok1
    · skip
      refine pw_aloadn (aX12_fetch 47 rfl) rfl ?_
      refine pw_aloadn (aX12_fetch 48 rfl) rfl ?_
      refine pw_getr (v := .int (FI1 121 58)) (aX12_fetch 49 rfl) uf_RX12_402 un_RX12_402 rfl ?_
      refine pw_aloadn (aX12_fetch 50 rfl) rfl ?_
      refine pw_getr (v := .ref (base + 146)) (aX12_fetch 51 rfl) uf_RX12_93 un_RX12_93 (congrArg (fun r => va_rf (h_rf base r)) (q121_51 (hok1).2.1)) ?_
      refine pw_aloadn (aX12_fetch 52 rfl) rfl ?_
      refine pw_getr (v := .int (FI1 121 58)) (aX12_fetch 53 rfl) uf_RX12_402 un_RX12_402 rfl ?_
      refine pw_ialdr (c := 146) (ix := (FI1 121 58).toInt.toNat) (aX12_fetch 54 rfl) rfl (fun _ => ?_)
      refine pw_i2l (aX12_fetch 55 rfl) ?_
      refine pw_aloadn (aX12_fetch 56 rfl) rfl ?_
      refine pw_getr (v := .int (FI1 121 59)) (aX12_fetch 57 rfl) uf_RX12_405 un_RX12_405 rfl ?_
      refine pw_i2l (aX12_fetch 58 rfl) ?_
      refine pw_ladd (aX12_fetch 59 rfl) ?_
      refine pw_cf (pw_callV (Bs := [.int (FI1 121 58), .long (((FI1 146 (FI1 121 58).toInt.toNat).toInt64) + ((FI1 121 59).toInt64))]) (rest := []) (aX12_fetch 60 rfl) um_RX12_416 ujX12_bit wc_RX12_416.2.2.2.2 (by decide) (by decide) rfl rfl (fun d => rX12_bit hkb (FI1 121 58) (((FI1 146 (FI1 121 58).toInt.toNat).toInt64) + ((FI1 121 59).toInt64)) n1 sl1 SH1 FI1 FL1 FR1 hok1) (fun v3 n3 sl3 SH3 FI3 FL3 FR3 _ hC => ?_))
      obtain ⟨rfl, hC⟩ := hC; cases hC
      show pw _ _ _ _ _ _ _ 103 _ [.int (fX12_bit (FI1 121 58) (((FI1 146 (FI1 121 58).toInt.toNat).toInt64) + ((FI1 121 59).toInt64)) SH1 FI1 FL1 FR1)] _ _
      refine pw_istore (L2 := [(4, .int (fX12_bit (FI1 121 58) (((FI1 146 (FI1 121 58).toInt.toNat).toInt64) + ((FI1 121 59).toInt64)) SH1 FI1 FL1 FR1)), (0, .ref (base + 121)), (1, .int (a1)), (2, .int (l2i)), (3, .int (l3i))]) (aX12_fetch 61 rfl) rfl ?_
      refine pw_iload (aX12_fetch 62 rfl) rfl ?_
      refine pw_iconst (v := (-1 : Int32)) (aX12_fetch 63 rfl) rfl ?_
      refine pw_iceq (tgt := 141) (aX12_fetch 64 rfl) (by decide) (fun b4 => ?_) (fun b4 => ?_)
      · skip
        exact pw_Li (L2 := [(0, .ref (base + 121)), (1, .int (a1)), (2, .int (l2i)), (3, .int (l3i)), (4, .int (fX12_bit (FI1 121 58) (((FI1 146 (FI1 121 58).toInt.toNat).toInt64) + ((FI1 121 59).toInt64)) SH1 FI1 FL1 FR1))]) [4, 0, 1, 2, 3] (rX12_fetch_141 hkb a1 (l2i) (l3i) (fX12_bit (FI1 121 58) (((FI1 146 (FI1 121 58).toInt.toNat).toInt64) + ((FI1 121 59).toInt64)) SH1 FI1 FL1 FR1) n1 sl1 SH1 FI1 FL1 FR1 hok1  hK67) ⟨rfl, rfl, rfl, rfl, rfl, trivial⟩
      · skip
        refine pw_iloadn (aX12_fetch 65 rfl) rfl ?_
        refine pw_iconst (v := (1 : Int32)) (aX12_fetch 66 rfl) rfl ?_
        refine pw_iadd (aX12_fetch 67 rfl) ?_
        refine pw_istoren (L2 := [(2, .int ((l2i) + ((1 : Int32)))), (4, .int (fX12_bit (FI1 121 58) (((FI1 146 (FI1 121 58).toInt.toNat).toInt64) + ((FI1 121 59).toInt64)) SH1 FI1 FL1 FR1)), (0, .ref (base + 121)), (1, .int (a1)), (3, .int (l3i))]) (aX12_fetch 68 rfl) rfl ?_
        refine pw_aloadn (aX12_fetch 69 rfl) rfl ?_
        refine pw_getr (v := .ref (base + 148)) (aX12_fetch 70 rfl) uf_RX12_102 un_RX12_102 (congrArg (fun r => va_rf (h_rf base r)) (q121_60 (hok1).2.1)) ?_
        refine pw_iloadn (aX12_fetch 71 rfl) rfl ?_
        refine pw_bipush (v := (8 : Int32)) (aX12_fetch 72 rfl) rfl ?_
        refine pw_idiv (aX12_fetch 73 rfl) (fun _ => ?_)
        refine pw_aloadn (aX12_fetch 74 rfl) rfl ?_
        refine pw_getr (v := .ref (base + 148)) (aX12_fetch 75 rfl) uf_RX12_102 un_RX12_102 (congrArg (fun r => va_rf (h_rf base r)) (q121_60 (hok1).2.1)) ?_
        refine pw_iloadn (aX12_fetch 76 rfl) rfl ?_
        refine pw_bipush (v := (8 : Int32)) (aX12_fetch 77 rfl) rfl ?_
        refine pw_idiv (aX12_fetch 78 rfl) (fun _ => ?_)
        refine pw_ialdr (c := 148) (ix := ((l3i) / ((8 : Int32))).toInt.toNat) (aX12_fetch 79 rfl) rfl (fun _ => ?_)
        refine pw_iload (aX12_fetch 80 rfl) rfl ?_
        refine pw_iloadn (aX12_fetch 81 rfl) rfl ?_
        refine pw_bipush (v := (8 : Int32)) (aX12_fetch 82 rfl) rfl ?_
        refine pw_irem (aX12_fetch 83 rfl) (fun _ => ?_)
        refine pw_ishl (aX12_fetch 84 rfl) ?_
        refine pw_ior (aX12_fetch 85 rfl) ?_
        refine pw_iastr (c := 148) (ix := ((l3i) / ((8 : Int32))).toInt.toNat) (aX12_fetch 86 rfl) rfl (fun _ => ?_)
        exact pw_Li (L2 := [(0, .ref (base + 121)), (1, .int (a1)), (2, .int ((l2i) + ((1 : Int32)))), (3, .int (l3i)), (4, .int (fX12_bit (FI1 121 58) (((FI1 146 (FI1 121 58).toInt.toNat).toInt64) + ((FI1 121 59).toInt64)) SH1 FI1 FL1 FR1))]) [2, 4, 0, 1, 3] (rX12_fetch_141 hkb a1 ((l2i) + ((1 : Int32))) (l3i) (fX12_bit (FI1 121 58) (((FI1 146 (FI1 121 58).toInt.toNat).toInt64) + ((FI1 121 59).toInt64)) SH1 FI1 FL1 FR1) n1 sl1 SH1 (h_up FI1 148 ((l3i) / ((8 : Int32))).toInt.toNat ((FI1 148 ((l3i) / ((8 : Int32))).toInt.toNat) ||| ((fX12_bit (FI1 121 58) (((FI1 146 (FI1 121 58).toInt.toNat).toInt64) + ((FI1 121 59).toInt64)) SH1 FI1 FL1 FR1) <<< (((l3i) - (l3i) / ((8 : Int32)) * ((8 : Int32))) &&& 31)))) FL1 FR1 hok1  hK67) ⟨rfl, rfl, rfl, rfl, rfl, trivial⟩
  · skip
    refine pw_iloadn (aX12_fetch 95 rfl) rfl ?_
    exact pw_iret (aX12_fetch 96 rfl) hok
theorem gX12_fetch_67 {sk : xK} {base d : Nat}  (hkb : x_kb sk base) (a1 : Int32) (N : Nat) :  ∀ (l2i : Int32) (l3i : Int32) (l4i : Int32) (n sl : Nat) (SH : Nat → Nat × Nat) (FI : Nat → Nat → Int32) (FL : Nat → Nat → Int64) (FR : Nat → Nat → Option Nat), pk n SH FR → pw pj_I sk base N d none 203 67 [(0, .ref (base + 121)), (1, .int (a1)), (2, .int (l2i)), (3, .int (l3i)), (4, .int (l4i))] [] (n, sl, SH, FI, FL, FR) (GX12_fetch_67  a1 (N + 1) l2i l3i n sl SH FI FL FR) := by
  induction N with
  | zero => intros; exact pw_0
  | succ N ih => intro   l2i l3i l4i n sl SH FI FL FR hok; exact bX12_fetch_67 hkb a1 l2i l3i l4i n sl SH FI FL FR hok  (ih  )
theorem rX12_fetch_67 {sk : xK} {base N d : Nat}  (hkb : x_kb sk base) (a1 : Int32) (l2i : Int32) (l3i : Int32) (l4i : Int32) (n sl : Nat) (SH : Nat → Nat × Nat) (FI : Nat → Nat → Int32) (FL : Nat → Nat → Int64) (FR : Nat → Nat → Option Nat) (hok : pk n SH FR)   : pw pj_I sk base N d none 203 67 [(0, .ref (base + 121)), (1, .int (a1)), (2, .int (l2i)), (3, .int (l3i)), (4, .int (l4i))] [] (n, sl, SH, FI, FL, FR) (RX12_fetch_67  a1 l2i l3i n sl SH FI FL FR) := pw_cons (gX12_fetch_67 hkb a1 N   l2i l3i l4i n sl SH FI FL FR hok) (fun _ _ h => ⟨_, h⟩)
set_option maxHeartbeats 4000000 in
set_option maxRecDepth 100000 in
theorem bX12_fetch_32 {sk : xK} {base N d : Nat} {K32 : Int32 → Nat → Nat → (Nat → Nat × Nat) → (Nat → Nat → Int32) → (Nat → Nat → Int64) → (Nat → Nat → Option Nat) → Int32 → hS → Prop} (hkb : x_kb sk base) (a1 : Int32) (l2i : Int32)  (n sl : Nat) (SH : Nat → Nat × Nat) (FI : Nat → Nat → Int32) (FL : Nat → Nat → Int64) (FR : Nat → Nat → Option Nat) (hok : pk n SH FR)  (hK32 : ∀ (l2i : Int32) (n sl : Nat) (SH : Nat → Nat × Nat) (FI : Nat → Nat → Int32) (FL : Nat → Nat → Int64) (FR : Nat → Nat → Option Nat), pk n SH FR → pw pj_I sk base N d none 203 32 [(0, .ref (base + 121)), (1, .int (a1)), (2, .int (l2i))] [] (n, sl, SH, FI, FL, FR) (K32 l2i n sl SH FI FL FR)) : pw pj_I sk base (N + 1) d none 203 32 [(0, .ref (base + 121)), (1, .int (a1)), (2, .int (l2i))] [] (n, sl, SH, FI, FL, FR) (BX12_fetch_32 K32 a1 l2i n sl SH FI FL FR) := by
  unfold BX12_fetch_32
  refine pd_iloadn (aX12_fetch 20 rfl) rfl ?_
  refine pw_aloadn (aX12_fetch 21 rfl) rfl ?_
  refine pw_getr (v := .int (FI 121 61)) (aX12_fetch 22 rfl) uf_RX12_410 un_RX12_410 rfl ?_
  refine pw_icge (tgt := 53) (aX12_fetch 23 rfl) (by decide) (fun b0 => ?_) (fun b0 => ?_)
  · skip
    refine pw_aloadn (aX12_fetch 24 rfl) rfl ?_
    refine pw_getr (v := .ref (base + 148)) (aX12_fetch 25 rfl) uf_RX12_102 un_RX12_102 (congrArg (fun r => va_rf (h_rf base r)) (q121_60 (hok).2.1)) ?_
    refine pw_iloadn (aX12_fetch 26 rfl) rfl ?_
    refine pw_iconst (v := (0 : Int32)) (aX12_fetch 27 rfl) rfl ?_
    refine pw_iastr (c := 148) (ix := (l2i).toInt.toNat) (aX12_fetch 28 rfl) rfl (fun _ => ?_)
    refine pw_iinc (v := (l2i) + (1 : Int32)) (L2 := [(2, .int ((l2i) + (1 : Int32))), (0, .ref (base + 121)), (1, .int (a1))]) (aX12_fetch 29 rfl) rfl rfl rfl ?_
    refine pw_goto (tgt := 32) (aX12_fetch 30 rfl) (by decide) ?_
    exact pw_Li (L2 := [(0, .ref (base + 121)), (1, .int (a1)), (2, .int ((l2i) + (1 : Int32)))]) [2, 0, 1] (hK32 ((l2i) + (1 : Int32)) n sl SH (h_up FI 148 (l2i).toInt.toNat ((0 : Int32))) FL FR hok) ⟨rfl, rfl, rfl, trivial⟩
  · skip
    refine pw_aloadn (aX12_fetch 31 rfl) rfl ?_
    refine pw_iconst (v := (0 : Int32)) (aX12_fetch 32 rfl) rfl ?_
    refine pw_putri (aX12_fetch 33 rfl) uf_RX12_402 (fun _ _ _ => rfl) (fun t2 => ?_)
    refine pw_aloadn (aX12_fetch 34 rfl) rfl ?_
    refine pw_iconst (v := (0 : Int32)) (aX12_fetch 35 rfl) rfl ?_
    refine pw_putri (aX12_fetch 36 rfl) uf_RX12_405 (fun _ _ _ => rfl) (fun t3 => ?_)
    refine pw_iconst (v := (0 : Int32)) (aX12_fetch 37 rfl) rfl ?_
    refine pw_istoren (L2 := [(2, .int ((0 : Int32))), (0, .ref (base + 121)), (1, .int (a1))]) (aX12_fetch 38 rfl) rfl ?_
    refine pw_iconst (v := (0 : Int32)) (aX12_fetch 39 rfl) rfl ?_
    refine pw_istoren (L2 := [(3, .int ((0 : Int32))), (2, .int ((0 : Int32))), (0, .ref (base + 121)), (1, .int (a1))]) (aX12_fetch 40 rfl) rfl ?_
    exact pw_Li (L2 := [(0, .ref (base + 121)), (1, .int (a1)), (2, .int ((0 : Int32))), (3, .int ((0 : Int32))), (4, .int 0)]) [3, 2, 0, 1] (rX12_fetch_67 hkb a1 ((0 : Int32)) ((0 : Int32)) 0 n sl SH (h_up (h_up FI 121 58 ((0 : Int32))) 121 59 ((0 : Int32))) FL FR hok  ) ⟨rfl, rfl, rfl, rfl, trivial⟩
theorem gX12_fetch_32 {sk : xK} {base d : Nat}  (hkb : x_kb sk base) (a1 : Int32) (N : Nat) :  ∀ (l2i : Int32)  (n sl : Nat) (SH : Nat → Nat × Nat) (FI : Nat → Nat → Int32) (FL : Nat → Nat → Int64) (FR : Nat → Nat → Option Nat), pk n SH FR → pw pj_I sk base N d none 203 32 [(0, .ref (base + 121)), (1, .int (a1)), (2, .int (l2i))] [] (n, sl, SH, FI, FL, FR) (GX12_fetch_32  a1 (N + 1) l2i n sl SH FI FL FR) := by
  induction N with
  | zero => intros; exact pw_0
  | succ N ih => intro   l2i  n sl SH FI FL FR hok; exact bX12_fetch_32 hkb a1 l2i  n sl SH FI FL FR hok  (ih  )
theorem rX12_fetch_32 {sk : xK} {base N d : Nat}  (hkb : x_kb sk base) (a1 : Int32) (l2i : Int32)  (n sl : Nat) (SH : Nat → Nat × Nat) (FI : Nat → Nat → Int32) (FL : Nat → Nat → Int64) (FR : Nat → Nat → Option Nat) (hok : pk n SH FR)   : pw pj_I sk base N d none 203 32 [(0, .ref (base + 121)), (1, .int (a1)), (2, .int (l2i))] [] (n, sl, SH, FI, FL, FR) (RX12_fetch_32  a1 l2i n sl SH FI FL FR) := pw_cons (gX12_fetch_32 hkb a1 N   l2i  n sl SH FI FL FR hok) (fun _ _ h => ⟨_, h⟩)
set_option maxHeartbeats 4000000 in
set_option maxRecDepth 100000 in
theorem rX12_fetch {sk : xK} {base N d : Nat} (hkb : x_kb sk base) (a1 : Int32) (n sl : Nat) (SH : Nat → Nat × Nat) (FI : Nat → Nat → Int32) (FL : Nat → Nat → Int64) (FR : Nat → Nat → Option Nat) (hok : pk n SH FR)  : pw pj_I sk base N d none 203 0 [(0, .ref (base + 121)), (1, .int (a1))] [] (n, sl, SH, FI, FL, FR) (RX12_fetch a1 n sl SH FI FL FR) := by
  unfold RX12_fetch
  refine pw_aloadn (aX12_fetch 0 rfl) rfl ?_
  refine pw_iconst (v := (0 : Int32)) (aX12_fetch 1 rfl) rfl ?_
  refine pw_putri (aX12_fetch 2 rfl) uf_RX12_187 (fun _ _ _ => rfl) (fun t1 => ?_)
  refine pw_iloadn (aX12_fetch 3 rfl) rfl ?_
  refine pw_iconst (v := (1 : Int32)) (aX12_fetch 4 rfl) rfl ?_
  refine pw_iclt (tgt := 17) (aX12_fetch 5 rfl) (by decide) (fun b1 => ?_) (fun b1 => ?_)
  · skip
    refine pw_iconst (v := (-1 : Int32)) (aX12_fetch 9 rfl) rfl ?_
    exact pw_iret (aX12_fetch 10 rfl) hok
  · skip
    refine pw_iloadn (aX12_fetch 6 rfl) rfl ?_
    refine pw_sipush (v := (512 : Int32)) (aX12_fetch 7 rfl) rfl ?_
    refine pw_icle (tgt := 19) (aX12_fetch 8 rfl) (by decide) (fun b2 => ?_) (fun b2 => ?_)
    · skip
      refine pw_iconst (v := (-1 : Int32)) (aX12_fetch 9 rfl) rfl ?_
      exact pw_iret (aX12_fetch 10 rfl) hok
    · skip
      refine pw_aloadn (aX12_fetch 11 rfl) rfl ?_
      refine pw_iloadn (aX12_fetch 12 rfl) rfl ?_
      refine pw_bipush (v := (7 : Int32)) (aX12_fetch 13 rfl) rfl ?_
      refine pw_iadd (aX12_fetch 14 rfl) ?_
      refine pw_bipush (v := (8 : Int32)) (aX12_fetch 15 rfl) rfl ?_
      refine pw_idiv (aX12_fetch 16 rfl) (fun _ => ?_)
      refine pw_putri (aX12_fetch 17 rfl) uf_RX12_410 (fun _ _ _ => rfl) (fun t4 => ?_)
      refine pw_iconst (v := (0 : Int32)) (aX12_fetch 18 rfl) rfl ?_
      refine pw_istoren (L2 := [(2, .int ((0 : Int32))), (0, .ref (base + 121)), (1, .int (a1))]) (aX12_fetch 19 rfl) rfl ?_
      exact pw_Li (L2 := [(0, .ref (base + 121)), (1, .int (a1)), (2, .int ((0 : Int32)))]) [2, 0, 1] (rX12_fetch_32 hkb a1 ((0 : Int32)) n sl SH (h_up (h_up FI 121 0 ((0 : Int32))) 121 61 (((a1) + ((7 : Int32))) / ((8 : Int32)))) FL FR hok  ) ⟨rfl, rfl, rfl, trivial⟩
set_option maxHeartbeats 4000000 in
set_option maxRecDepth 100000 in
theorem rX12_store_106 {sk : xK} {base N d : Nat} {K47 : Int32 → Int32 → Nat → Nat → (Nat → Nat × Nat) → (Nat → Nat → Int32) → (Nat → Nat → Int64) → (Nat → Nat → Option Nat) → Int32 → hS → Prop} (hkb : x_kb sk base) (a1 : Int32) (l2i : Int32) (l3i : Int32)  (n sl : Nat) (SH : Nat → Nat × Nat) (FI : Nat → Nat → Int32) (FL : Nat → Nat → Int64) (FR : Nat → Nat → Option Nat) (hok : pk n SH FR)  (hK47 : ∀ (l2i : Int32) (l3i : Int32) (n sl : Nat) (SH : Nat → Nat × Nat) (FI : Nat → Nat → Int32) (FL : Nat → Nat → Int64) (FR : Nat → Nat → Option Nat), pk n SH FR → pw pj_I sk base N d none 204 47 [(0, .ref (base + 121)), (1, .int (a1)), (2, .int (l2i)), (3, .int (l3i))] [] (n, sl, SH, FI, FL, FR) (K47 l2i l3i n sl SH FI FL FR)) : pw pj_I sk base N d none 204 106 [(0, .ref (base + 121)), (1, .int (a1)), (2, .int (l2i)), (3, .int (l3i))] [] (n, sl, SH, FI, FL, FR) (RX12_store_106 K47 a1 l2i l3i n sl SH FI FL FR) := by
  unfold RX12_store_106
  refine pw_aloadn (aX12_store 66 rfl) rfl ?_
  refine pw_aloadn (aX12_store 67 rfl) rfl ?_
  refine pw_getr (v := .int (FI 121 59)) (aX12_store 68 rfl) uf_RX12_405 un_RX12_405 rfl ?_
  refine pw_iconst (v := (1 : Int32)) (aX12_store 69 rfl) rfl ?_
  refine pw_iadd (aX12_store 70 rfl) ?_
  refine pw_putri (aX12_store 71 rfl) uf_RX12_405 (fun _ _ _ => rfl) (fun t1 => ?_)
  refine pw_iinc (v := (l3i) + (1 : Int32)) (L2 := [(3, .int ((l3i) + (1 : Int32))), (0, .ref (base + 121)), (1, .int (a1)), (2, .int (l2i))]) (aX12_store 72 rfl) rfl rfl rfl ?_
  refine pw_goto (tgt := 47) (aX12_store 73 rfl) (by decide) ?_
  exact pw_Li (L2 := [(0, .ref (base + 121)), (1, .int (a1)), (2, .int (l2i)), (3, .int ((l3i) + (1 : Int32)))]) [3, 0, 1, 2] (hK47 (l2i) ((l3i) + (1 : Int32)) n sl SH (h_up FI 121 59 ((FI 121 59) + ((1 : Int32)))) FL FR hok) ⟨rfl, rfl, rfl, rfl, trivial⟩
set_option maxHeartbeats 4000000 in
set_option maxRecDepth 100000 in
theorem bX12_store_47 {sk : xK} {base N d : Nat} {K47 : Int32 → Int32 → Nat → Nat → (Nat → Nat × Nat) → (Nat → Nat → Int32) → (Nat → Nat → Int64) → (Nat → Nat → Option Nat) → Int32 → hS → Prop} (hkb : x_kb sk base) (a1 : Int32) (l2i : Int32) (l3i : Int32)  (n sl : Nat) (SH : Nat → Nat × Nat) (FI : Nat → Nat → Int32) (FL : Nat → Nat → Int64) (FR : Nat → Nat → Option Nat) (hok : pk n SH FR)  (hK47 : ∀ (l2i : Int32) (l3i : Int32) (n sl : Nat) (SH : Nat → Nat × Nat) (FI : Nat → Nat → Int32) (FL : Nat → Nat → Int64) (FR : Nat → Nat → Option Nat), pk n SH FR → pw pj_I sk base N d none 204 47 [(0, .ref (base + 121)), (1, .int (a1)), (2, .int (l2i)), (3, .int (l3i))] [] (n, sl, SH, FI, FL, FR) (K47 l2i l3i n sl SH FI FL FR)) : pw pj_I sk base (N + 1) d none 204 47 [(0, .ref (base + 121)), (1, .int (a1)), (2, .int (l2i)), (3, .int (l3i))] [] (n, sl, SH, FI, FL, FR) (BX12_store_47 K47 a1 l2i l3i n sl SH FI FL FR) := by
  unfold BX12_store_47
  refine pd_iloadn (aX12_store 29 rfl) rfl ?_
  refine pw_iloadn (aX12_store 30 rfl) rfl ?_
  refine pw_icge (tgt := 122) (aX12_store 31 rfl) (by decide) (fun b0 => ?_) (fun b0 => ?_)
  · skip
    refine pw_aloadn (aX12_store 32 rfl) rfl ?_
    refine pw_callV (Bs := []) (rest := []) (aX12_store 33 rfl) um_RX12_413 ujX12_goes wc_RX12_413.2.2.2.2 (by decide) (by decide) rfl rfl (fun d => rX12_goes hkb  n sl SH FI FL FR hok) (fun v1 n1 sl1 SH1 FI1 FL1 FR1 hok1 _ => ?_)
    show pw _ _ _ _ _ _ _ 56 _ [.int (v1)] _ _
    refine pw_ifeq (tgt := 122) (aX12_store 34 rfl) (by decide) (fun b2 => ?_) (fun b2 => ?_)
    · skip
      refine pw_aloadn (aX12_store 74 rfl) rfl ?_
      refine pw_iconst (v := (0 : Int32)) (aX12_store 75 rfl) rfl ?_
      refine pw_putri (aX12_store 76 rfl) uf_RX12_190 (fun _ _ _ => rfl) (fun t4 => ?_)
      refine pw_iloadn (aX12_store 77 rfl) rfl ?_
      exact pw_iret (aX12_store 78 rfl) hok1
    · skip
      refine pw_aloadn (aX12_store 35 rfl) rfl ?_
      refine pw_aloadn (aX12_store 36 rfl) rfl ?_
      refine pw_getr (v := .int (FI1 121 58)) (aX12_store 37 rfl) uf_RX12_402 un_RX12_402 rfl ?_
      refine pw_aloadn (aX12_store 38 rfl) rfl ?_
      refine pw_getr (v := .ref (base + 146)) (aX12_store 39 rfl) uf_RX12_93 un_RX12_93 (congrArg (fun r => va_rf (h_rf base r)) (q121_51 (hok1).2.1)) ?_
      refine pw_aloadn (aX12_store 40 rfl) rfl ?_
      refine pw_getr (v := .int (FI1 121 58)) (aX12_store 41 rfl) uf_RX12_402 un_RX12_402 rfl ?_
      refine pw_ialdr (c := 146) (ix := (FI1 121 58).toInt.toNat) (aX12_store 42 rfl) rfl (fun _ => ?_)
      refine pw_i2l (aX12_store 43 rfl) ?_
      refine pw_aloadn (aX12_store 44 rfl) rfl ?_
      refine pw_getr (v := .int (FI1 121 59)) (aX12_store 45 rfl) uf_RX12_405 un_RX12_405 rfl ?_
      refine pw_i2l (aX12_store 46 rfl) ?_
      refine pw_ladd (aX12_store 47 rfl) ?_
      refine pw_aloadn (aX12_store 48 rfl) rfl ?_
      refine pw_getr (v := .ref (base + 126)) (aX12_store 49 rfl) uf_RX12_30 un_RX12_30 (congrArg (fun r => va_rf (h_rf base r)) (q121_12 (hok1).2.1)) ?_
      refine pw_iloadn (aX12_store 50 rfl) rfl ?_
      refine pw_bipush (v := (8 : Int32)) (aX12_store 51 rfl) rfl ?_
      refine pw_idiv (aX12_store 52 rfl) (fun _ => ?_)
      refine pw_ialdr (c := 126) (ix := ((l3i) / ((8 : Int32))).toInt.toNat) (aX12_store 53 rfl) rfl (fun _ => ?_)
      refine pw_iloadn (aX12_store 54 rfl) rfl ?_
      refine pw_bipush (v := (8 : Int32)) (aX12_store 55 rfl) rfl ?_
      refine pw_irem (aX12_store 56 rfl) (fun _ => ?_)
      refine pw_ishr (aX12_store 57 rfl) ?_
      refine pw_iconst (v := (1 : Int32)) (aX12_store 58 rfl) rfl ?_
      refine pw_iand (aX12_store 59 rfl) ?_
      refine pw_callV (Bs := [.int (FI1 121 58), .long (((FI1 146 (FI1 121 58).toInt.toNat).toInt64) + ((FI1 121 59).toInt64)), .int (((FI1 126 ((l3i) / ((8 : Int32))).toInt.toNat) >>> (((l3i) - (l3i) / ((8 : Int32)) * ((8 : Int32))) &&& 31)) &&& ((1 : Int32)))]) (rest := []) (aX12_store 60 rfl) um_RX12_420 ujX12_puts_ wc_RX12_420.2.2.2.2 (by decide) (by decide) rfl rfl (fun d => rX12_puts_ hkb (FI1 121 58) (((FI1 146 (FI1 121 58).toInt.toNat).toInt64) + ((FI1 121 59).toInt64)) (((FI1 126 ((l3i) / ((8 : Int32))).toInt.toNat) >>> (((l3i) - (l3i) / ((8 : Int32)) * ((8 : Int32))) &&& 31)) &&& ((1 : Int32))) n1 sl1 SH1 FI1 FL1 FR1 hok1) (fun v4 n4 sl4 SH4 FI4 FL4 FR4 hok4 _ => ?_)
      show pw _ _ _ _ _ _ _ 99 _ [.int (v4)] _ _
      refine pw_ifeq (tgt := 106) (aX12_store 61 rfl) (by decide) (fun b5 => ?_) (fun b5 => ?_)
      · skip
        exact pw_Li (L2 := [(0, .ref (base + 121)), (1, .int (a1)), (2, .int (l2i)), (3, .int (l3i))]) [0, 1, 2, 3] (rX12_store_106 hkb a1 (l2i) (l3i) n4 sl4 SH4 FI4 FL4 FR4 hok4  hK47) ⟨rfl, rfl, rfl, rfl, trivial⟩
      · skip
        refine pw_iloadn (aX12_store 62 rfl) rfl ?_
        refine pw_iconst (v := (1 : Int32)) (aX12_store 63 rfl) rfl ?_
        refine pw_iadd (aX12_store 64 rfl) ?_
        refine pw_istoren (L2 := [(2, .int ((l2i) + ((1 : Int32)))), (0, .ref (base + 121)), (1, .int (a1)), (3, .int (l3i))]) (aX12_store 65 rfl) rfl ?_
        exact pw_Li (L2 := [(0, .ref (base + 121)), (1, .int (a1)), (2, .int ((l2i) + ((1 : Int32)))), (3, .int (l3i))]) [2, 0, 1, 3] (rX12_store_106 hkb a1 ((l2i) + ((1 : Int32))) (l3i) n4 sl4 SH4 FI4 FL4 FR4 hok4  hK47) ⟨rfl, rfl, rfl, rfl, trivial⟩
  · skip
    refine pw_aloadn (aX12_store 74 rfl) rfl ?_
    refine pw_iconst (v := (0 : Int32)) (aX12_store 75 rfl) rfl ?_
    refine pw_putri (aX12_store 76 rfl) uf_RX12_190 (fun _ _ _ => rfl) (fun t7 => ?_)
    refine pw_iloadn (aX12_store 77 rfl) rfl ?_
    exact pw_iret (aX12_store 78 rfl) hok
theorem gX12_store_47 {sk : xK} {base d : Nat}  (hkb : x_kb sk base) (a1 : Int32) (N : Nat) :  ∀ (l2i : Int32) (l3i : Int32)  (n sl : Nat) (SH : Nat → Nat × Nat) (FI : Nat → Nat → Int32) (FL : Nat → Nat → Int64) (FR : Nat → Nat → Option Nat), pk n SH FR → pw pj_I sk base N d none 204 47 [(0, .ref (base + 121)), (1, .int (a1)), (2, .int (l2i)), (3, .int (l3i))] [] (n, sl, SH, FI, FL, FR) (GX12_store_47  a1 (N + 1) l2i l3i n sl SH FI FL FR) := by
  induction N with
  | zero => intros; exact pw_0
  | succ N ih => intro   l2i l3i  n sl SH FI FL FR hok; exact bX12_store_47 hkb a1 l2i l3i  n sl SH FI FL FR hok  (ih  )
theorem rX12_store_47 {sk : xK} {base N d : Nat}  (hkb : x_kb sk base) (a1 : Int32) (l2i : Int32) (l3i : Int32)  (n sl : Nat) (SH : Nat → Nat × Nat) (FI : Nat → Nat → Int32) (FL : Nat → Nat → Int64) (FR : Nat → Nat → Option Nat) (hok : pk n SH FR)   : pw pj_I sk base N d none 204 47 [(0, .ref (base + 121)), (1, .int (a1)), (2, .int (l2i)), (3, .int (l3i))] [] (n, sl, SH, FI, FL, FR) (RX12_store_47  a1 l2i l3i n sl SH FI FL FR) := pw_cons (gX12_store_47 hkb a1 N   l2i l3i  n sl SH FI FL FR hok) (fun _ _ h => ⟨_, h⟩)
set_option maxHeartbeats 4000000 in
set_option maxRecDepth 100000 in
theorem rX12_store {sk : xK} {base N d : Nat} (hkb : x_kb sk base) (a1 : Int32) (n sl : Nat) (SH : Nat → Nat × Nat) (FI : Nat → Nat → Int32) (FL : Nat → Nat → Int64) (FR : Nat → Nat → Option Nat) (hok : pk n SH FR)  : pw pj_I sk base N d none 204 0 [(0, .ref (base + 121)), (1, .int (a1))] [] (n, sl, SH, FI, FL, FR) (RX12_store a1 n sl SH FI FL FR) := by
  unfold RX12_store
  refine pw_aloadn (aX12_store 0 rfl) rfl ?_
  refine pw_iconst (v := (0 : Int32)) (aX12_store 1 rfl) rfl ?_
  refine pw_putri (aX12_store 2 rfl) uf_RX12_187 (fun _ _ _ => rfl) (fun t1 => ?_)
  refine pw_iloadn (aX12_store 3 rfl) rfl ?_
  refine pw_iconst (v := (1 : Int32)) (aX12_store 4 rfl) rfl ?_
  refine pw_iclt (tgt := 31) (aX12_store 5 rfl) (by decide) (fun b1 => ?_) (fun b1 => ?_)
  · skip
    refine pw_iconst (v := (-1 : Int32)) (aX12_store 17 rfl) rfl ?_
    exact pw_iret (aX12_store 18 rfl) hok
  · skip
    refine pw_iloadn (aX12_store 6 rfl) rfl ?_
    refine pw_sipush (v := (512 : Int32)) (aX12_store 7 rfl) rfl ?_
    refine pw_icgt (tgt := 31) (aX12_store 8 rfl) (by decide) (fun b2 => ?_) (fun b2 => ?_)
    · skip
      refine pw_iconst (v := (-1 : Int32)) (aX12_store 17 rfl) rfl ?_
      exact pw_iret (aX12_store 18 rfl) hok
    · skip
      refine pw_aloadn (aX12_store 9 rfl) rfl ?_
      refine pw_getr (v := .int (FI 121 13)) (aX12_store 10 rfl) uf_RX12_190 un_RX12_190 rfl ?_
      refine pw_iloadn (aX12_store 11 rfl) rfl ?_
      refine pw_bipush (v := (7 : Int32)) (aX12_store 12 rfl) rfl ?_
      refine pw_iadd (aX12_store 13 rfl) ?_
      refine pw_bipush (v := (8 : Int32)) (aX12_store 14 rfl) rfl ?_
      refine pw_idiv (aX12_store 15 rfl) (fun _ => ?_)
      refine pw_icge (tgt := 33) (aX12_store 16 rfl) (by decide) (fun b3 => ?_) (fun b3 => ?_)
      · skip
        refine pw_iconst (v := (-1 : Int32)) (aX12_store 17 rfl) rfl ?_
        exact pw_iret (aX12_store 18 rfl) hok
      · skip
        refine pw_aloadn (aX12_store 19 rfl) rfl ?_
        refine pw_iconst (v := (0 : Int32)) (aX12_store 20 rfl) rfl ?_
        refine pw_putri (aX12_store 21 rfl) uf_RX12_402 (fun _ _ _ => rfl) (fun t5 => ?_)
        refine pw_aloadn (aX12_store 22 rfl) rfl ?_
        refine pw_iconst (v := (0 : Int32)) (aX12_store 23 rfl) rfl ?_
        refine pw_putri (aX12_store 24 rfl) uf_RX12_405 (fun _ _ _ => rfl) (fun t6 => ?_)
        refine pw_iconst (v := (0 : Int32)) (aX12_store 25 rfl) rfl ?_
        refine pw_istoren (L2 := [(2, .int ((0 : Int32))), (0, .ref (base + 121)), (1, .int (a1))]) (aX12_store 26 rfl) rfl ?_
        refine pw_iconst (v := (0 : Int32)) (aX12_store 27 rfl) rfl ?_
        refine pw_istoren (L2 := [(3, .int ((0 : Int32))), (2, .int ((0 : Int32))), (0, .ref (base + 121)), (1, .int (a1))]) (aX12_store 28 rfl) rfl ?_
        exact pw_Li (L2 := [(0, .ref (base + 121)), (1, .int (a1)), (2, .int ((0 : Int32))), (3, .int ((0 : Int32)))]) [3, 2, 0, 1] (rX12_store_47 hkb a1 ((0 : Int32)) ((0 : Int32)) n sl SH (h_up (h_up (h_up FI 121 0 ((0 : Int32))) 121 58 ((0 : Int32))) 121 59 ((0 : Int32))) FL FR hok  ) ⟨rfl, rfl, rfl, rfl, trivial⟩
set_option maxHeartbeats 4000000 in
set_option maxRecDepth 100000 in
theorem rX12_out {sk : xK} {base N d : Nat} (hkb : x_kb sk base) (a1 : Int32) (n sl : Nat) (SH : Nat → Nat × Nat) (FI : Nat → Nat → Int32) (FL : Nat → Nat → Int64) (FR : Nat → Nat → Option Nat) (hok : pk n SH FR)  : pw pj_I sk base N d none 205 0 [(0, .ref (base + 121)), (1, .int (a1))] [] (n, sl, SH, FI, FL, FR) (RX12_out a1 n sl SH FI FL FR) := by
  unfold RX12_out
  refine pw_aloadn (aX12_out 0 rfl) rfl ?_
  refine pw_iconst (v := (0 : Int32)) (aX12_out 1 rfl) rfl ?_
  refine pw_putri (aX12_out 2 rfl) uf_RX12_187 (fun _ _ _ => rfl) (fun t1 => ?_)
  refine pw_iloadn (aX12_out 3 rfl) rfl ?_
  refine pw_iflt (tgt := 17) (aX12_out 4 rfl) (by decide) (fun b1 => ?_) (fun b1 => ?_)
  · skip
    refine pw_iconst (v := (-1 : Int32)) (aX12_out 9 rfl) rfl ?_
    refine pw_goto (tgt := 27) (aX12_out 10 rfl) (by decide) ?_
    exact pw_iret (aX12_out 15 rfl) hok
  · skip
    refine pw_iloadn (aX12_out 5 rfl) rfl ?_
    refine pw_aloadn (aX12_out 6 rfl) rfl ?_
    refine pw_getr (v := .int (FI 121 61)) (aX12_out 7 rfl) uf_RX12_410 un_RX12_410 rfl ?_
    refine pw_iclt (tgt := 21) (aX12_out 8 rfl) (by decide) (fun b2 => ?_) (fun b2 => ?_)
    · skip
      refine pw_aloadn (aX12_out 11 rfl) rfl ?_
      refine pw_getr (v := .ref (base + 148)) (aX12_out 12 rfl) uf_RX12_102 un_RX12_102 (congrArg (fun r => va_rf (h_rf base r)) (q121_60 (hok).2.1)) ?_
      refine pw_iloadn (aX12_out 13 rfl) rfl ?_
      refine pw_ialdr (c := 148) (ix := (a1).toInt.toNat) (aX12_out 14 rfl) rfl (fun _ => ?_)
      exact pw_iret (aX12_out 15 rfl) hok
    · skip
      refine pw_iconst (v := (-1 : Int32)) (aX12_out 9 rfl) rfl ?_
      refine pw_goto (tgt := 27) (aX12_out 10 rfl) (by decide) ?_
      exact pw_iret (aX12_out 15 rfl) hok
set_option maxHeartbeats 4000000 in
set_option maxRecDepth 100000 in
theorem rX12_where {sk : xK} {base N d : Nat} (hkb : x_kb sk base) (a1 : Int32) (a2 : Int64) (a3 : Int32) (n sl : Nat) (SH : Nat → Nat × Nat) (FI : Nat → Nat → Int32) (FL : Nat → Nat → Int64) (FR : Nat → Nat → Option Nat) (hok : pk n SH FR)  : pw pj_I sk base N d none 252 0 [(0, .ref (base + 121)), (1, .int (a1)), (2, .long (a2)), (4, .int (a3))] [] (n, sl, SH, FI, FL, FR) (RX12_where a1 a2 a3 n sl SH FI FL FR) := by
  unfold RX12_where
  refine pw_aloadn (aX12_where 0 rfl) rfl ?_
  refine pw_iconst (v := (0 : Int32)) (aX12_where 1 rfl) rfl ?_
  refine pw_putri (aX12_where 2 rfl) uf_RX12_187 (fun _ _ _ => rfl) (fun t1 => ?_)
  refine pw_iloadn (aX12_where 3 rfl) rfl ?_
  refine pw_iflt (tgt := 26) (aX12_where 4 rfl) (by decide) (fun b1 => ?_) (fun b1 => ?_)
  · skip
    refine pw_iconst (v := (-1 : Int32)) (aX12_where 13 rfl) rfl ?_
    exact pw_iret (aX12_where 14 rfl) hok
  · skip
    refine pw_iloadn (aX12_where 5 rfl) rfl ?_
    refine pw_aloadn (aX12_where 6 rfl) rfl ?_
    refine pw_getr (v := .int (FI 121 74)) (aX12_where 7 rfl) uf_RX12_524 un_RX12_524 rfl ?_
    refine pw_icge (tgt := 26) (aX12_where 8 rfl) (by decide) (fun b2 => ?_) (fun b2 => ?_)
    · skip
      refine pw_aloadn (aX12_where 9 rfl) rfl ?_
      refine pw_iload (aX12_where 10 rfl) rfl ?_
      refine pw_cf (pw_callV (Bs := [.int (a3)]) (rest := []) (aX12_where 11 rfl) um_RX12_386 ujX12_isFuel wc_RX12_386.2.2.2.2 (by decide) (by decide) rfl rfl (fun d => rX12_isFuel hkb (a3) n sl SH (h_up FI 121 0 ((0 : Int32))) FL FR hok) (fun v3 n3 sl3 SH3 FI3 FL3 FR3 _ hC => ?_))
      obtain ⟨rfl, hC⟩ := hC; cases hC
      show pw _ _ _ _ _ _ _ 23 _ [.int (fX12_isFuel (a3) SH (h_up FI 121 0 ((0 : Int32))) FL FR)] _ _
      refine pw_ifne (tgt := 28) (aX12_where 12 rfl) (by decide) (fun b4 => ?_) (fun b4 => ?_)
      · skip
        refine pw_iconst (v := (-1 : Int32)) (aX12_where 13 rfl) rfl ?_
        exact pw_iret (aX12_where 14 rfl) hok
      · skip
        refine pw_sipush (v := (12000 : Int32)) (aX12_where 15 rfl) rfl ?_
        refine pw_sipush (v := (600 : Int32)) (aX12_where 16 rfl) rfl ?_
        refine pw_iloadn (aX12_where 17 rfl) rfl ?_
        refine pw_imul (aX12_where 18 rfl) ?_
        refine pw_iadd (aX12_where 19 rfl) ?_
        refine pw_istore (L2 := [(5, .int (((12000 : Int32)) + (((600 : Int32)) * (a1)))), (0, .ref (base + 121)), (1, .int (a1)), (2, .long (a2)), (4, .int (a3))]) (aX12_where 20 rfl) rfl ?_
        refine pw_aloadn (aX12_where 21 rfl) rfl ?_
        refine pw_getr (v := .ref (base + 156)) (aX12_where 22 rfl) uf_RX12_126 un_RX12_126 (congrArg (fun r => va_rf (h_rf base r)) (q121_76 (hok).2.1)) ?_
        refine pw_iloadn (aX12_where 23 rfl) rfl ?_
        refine pw_ialdr (c := 156) (ix := (a1).toInt.toNat) (aX12_where 24 rfl) rfl (fun _ => ?_)
        refine pw_ifne (tgt := 66) (aX12_where 25 rfl) (by decide) (fun b5 => ?_) (fun b5 => ?_)
        · skip
          refine pw_aloadn (aX12_where 26 rfl) rfl ?_
          refine pw_iload (aX12_where 27 rfl) rfl ?_
          refine pw_aloadn (aX12_where 28 rfl) rfl ?_
          refine pw_getr (v := .ref (base + 125)) (aX12_where 29 rfl) uf_RX12_20 un_RX12_20 (congrArg (fun r => va_rf (h_rf base r)) (q121_4 (hok).2.1)) ?_
          refine pw_bipush (v := (20 : Int32)) (aX12_where 30 rfl) rfl ?_
          refine pw_iloadn (aX12_where 31 rfl) rfl ?_
          refine pw_iadd (aX12_where 32 rfl) ?_
          refine pw_ialdr (c := 125) (ix := (((20 : Int32)) + (a1)).toInt.toNat) (aX12_where 33 rfl) rfl (fun _ => ?_)
          refine pw_iload (aX12_where 34 rfl) rfl ?_
          refine pw_callV (Bs := [.int (((12000 : Int32)) + (((600 : Int32)) * (a1))), .int (FI 125 (((20 : Int32)) + (a1)).toInt.toNat), .int (a3)]) (rest := []) (aX12_where 35 rfl) um_RX12_389 ujX12_runs wc_RX12_389.2.2.2.2 (by decide) (by decide) rfl rfl (fun d => rX12_runs hkb (((12000 : Int32)) + (((600 : Int32)) * (a1))) (FI 125 (((20 : Int32)) + (a1)).toInt.toNat) (a3) n sl SH (h_up FI 121 0 ((0 : Int32))) FL FR hok) (fun v6 n6 sl6 SH6 FI6 FL6 FR6 hok6 _ => ?_)
          show pw _ _ _ _ _ _ _ 65 _ [.int (v6)] _ _
          exact pw_iret (aX12_where 36 rfl) hok6
        · skip
          refine pw_aloadn (aX12_where 37 rfl) rfl ?_
          refine pw_iload (aX12_where 38 rfl) rfl ?_
          refine pw_aloadn (aX12_where 39 rfl) rfl ?_
          refine pw_getr (v := .ref (base + 125)) (aX12_where 40 rfl) uf_RX12_20 un_RX12_20 (congrArg (fun r => va_rf (h_rf base r)) (q121_4 (hok).2.1)) ?_
          refine pw_bipush (v := (20 : Int32)) (aX12_where 41 rfl) rfl ?_
          refine pw_iloadn (aX12_where 42 rfl) rfl ?_
          refine pw_iadd (aX12_where 43 rfl) ?_
          refine pw_ialdr (c := 125) (ix := (((20 : Int32)) + (a1)).toInt.toNat) (aX12_where 44 rfl) rfl (fun _ => ?_)
          refine pw_lconst (v := (0 : Int64)) (aX12_where 45 rfl) rfl ?_
          refine pw_lloadn (aX12_where 46 rfl) rfl ?_
          refine pw_iload (aX12_where 47 rfl) rfl ?_
          refine pw_callV (Bs := [.int (((12000 : Int32)) + (((600 : Int32)) * (a1))), .int (FI 125 (((20 : Int32)) + (a1)).toInt.toNat), .long ((0 : Int64)), .long (a2), .int (a3)]) (rest := []) (aX12_where 48 rfl) um_RX12_398 ujX12_finds wc_RX12_398.2.2.2.2 (by decide) (by decide) rfl rfl (fun d => rX12_finds hkb (((12000 : Int32)) + (((600 : Int32)) * (a1))) (FI 125 (((20 : Int32)) + (a1)).toInt.toNat) ((0 : Int64)) (a2) (a3) n sl SH (h_up FI 121 0 ((0 : Int32))) FL FR hok) (fun v7 n7 sl7 SH7 FI7 FL7 FR7 hok7 _ => ?_)
          show pw _ _ _ _ _ _ _ 85 _ [.int (v7)] _ _
          exact pw_iret (aX12_where 49 rfl) hok7
    · skip
      refine pw_iconst (v := (-1 : Int32)) (aX12_where 13 rfl) rfl ?_
      exact pw_iret (aX12_where 14 rfl) hok
set_option maxHeartbeats 4000000 in
set_option maxRecDepth 100000 in
theorem rX12_keepsSign {sk : xK} {base N d : Nat} (hkb : x_kb sk base) (a1 : Int32) (n sl : Nat) (SH : Nat → Nat × Nat) (FI : Nat → Nat → Int32) (FL : Nat → Nat → Int64) (FR : Nat → Nat → Option Nat) (hok : pk n SH FR)  : pw pj_I sk base N d none 254 0 [(0, .ref (base + 121)), (1, .int (a1))] [] (n, sl, SH, FI, FL, FR) (P_ret (fX12_keepsSign a1 SH FI FL FR) (n, sl, SH, FI, FL, FR)) := by
  unfold fX12_keepsSign
  refine pw_aloadn (aX12_keepsSign 0 rfl) rfl ?_
  refine pw_getr (v := .ref (base + 152)) (aX12_keepsSign 1 rfl) uf_RX12_114 un_RX12_114 (congrArg (fun r => va_rf (h_rf base r)) (q121_65 (hok).2.1)) ?_
  refine pw_aloadn (aX12_keepsSign 2 rfl) rfl ?_
  refine pw_getr (v := .int (FI 121 92)) (aX12_keepsSign 3 rfl) uf_RX12_656 un_RX12_656 rfl ?_
  refine pw_sd (pw_ialdr (c := 152) (ix := (FI 121 92).toInt.toNat) (aX12_keepsSign 4 rfl) rfl (fun _ => ?_))
  refine pw_iconst (v := (5 : Int32)) (aX12_keepsSign 5 rfl) rfl ?_
  refine pw_ite (pw_icne (tgt := 32) (aX12_keepsSign 6 rfl) (by decide) (fun b0 => ?_) (fun b0 => ?_))
  · skip
    refine pw_aloadn (aX12_keepsSign 7 rfl) rfl ?_
    refine pw_getr (v := .ref (base + 153)) (aX12_keepsSign 8 rfl) uf_RX12_117 un_RX12_117 (congrArg (fun r => va_rf (h_rf base r)) (q121_66 (hok).2.1)) ?_
    refine pw_aloadn (aX12_keepsSign 9 rfl) rfl ?_
    refine pw_getr (v := .int (FI 121 92)) (aX12_keepsSign 10 rfl) uf_RX12_656 un_RX12_656 rfl ?_
    refine pw_sd (pw_laldr (c := 153) (ix := (FI 121 92).toInt.toNat) (aX12_keepsSign 11 rfl) rfl (fun _ => ?_))
    refine pw_iloadn (aX12_keepsSign 12 rfl) rfl ?_
    refine pw_i2l (aX12_keepsSign 13 rfl) ?_
    refine pw_ite (pw_lcne (tgt := 32) (aX12_keepsSign 14 rfl) (aX12_keepsSign 15 rfl) (by decide) (fun b1 => ?_) (fun b1 => ?_))
    · skip
      refine pw_iconst (v := (1 : Int32)) (aX12_keepsSign 16 rfl) rfl ?_
      refine pw_goto (tgt := 33) (aX12_keepsSign 17 rfl) (by decide) ?_
      exact pw_iret (aX12_keepsSign 19 rfl) hok
    · skip
      refine pw_iconst (v := (0 : Int32)) (aX12_keepsSign 18 rfl) rfl ?_
      exact pw_iret (aX12_keepsSign 19 rfl) hok
  · skip
    refine pw_iconst (v := (0 : Int32)) (aX12_keepsSign 18 rfl) rfl ?_
    exact pw_iret (aX12_keepsSign 19 rfl) hok
set_option maxHeartbeats 4000000 in
set_option maxRecDepth 100000 in
theorem rX12_keepsWord {sk : xK} {base N d : Nat} (hkb : x_kb sk base) (a1 : Int32) (n sl : Nat) (SH : Nat → Nat × Nat) (FI : Nat → Nat → Int32) (FL : Nat → Nat → Int64) (FR : Nat → Nat → Option Nat) (hok : pk n SH FR)  : pw pj_I sk base N d none 255 0 [(0, .ref (base + 121)), (1, .int (a1))] [] (n, sl, SH, FI, FL, FR) (P_ret (fX12_keepsWord a1 SH FI FL FR) (n, sl, SH, FI, FL, FR)) := by
  unfold fX12_keepsWord
  refine pw_aloadn (aX12_keepsWord 0 rfl) rfl ?_
  refine pw_getr (v := .ref (base + 152)) (aX12_keepsWord 1 rfl) uf_RX12_114 un_RX12_114 (congrArg (fun r => va_rf (h_rf base r)) (q121_65 (hok).2.1)) ?_
  refine pw_aloadn (aX12_keepsWord 2 rfl) rfl ?_
  refine pw_getr (v := .int (FI 121 92)) (aX12_keepsWord 3 rfl) uf_RX12_656 un_RX12_656 rfl ?_
  refine pw_sd (pw_ialdr (c := 152) (ix := (FI 121 92).toInt.toNat) (aX12_keepsWord 4 rfl) rfl (fun _ => ?_))
  refine pw_iconst (v := (2 : Int32)) (aX12_keepsWord 5 rfl) rfl ?_
  refine pw_ite (pw_icne (tgt := 32) (aX12_keepsWord 6 rfl) (by decide) (fun b0 => ?_) (fun b0 => ?_))
  · skip
    refine pw_aloadn (aX12_keepsWord 7 rfl) rfl ?_
    refine pw_getr (v := .ref (base + 153)) (aX12_keepsWord 8 rfl) uf_RX12_117 un_RX12_117 (congrArg (fun r => va_rf (h_rf base r)) (q121_66 (hok).2.1)) ?_
    refine pw_aloadn (aX12_keepsWord 9 rfl) rfl ?_
    refine pw_getr (v := .int (FI 121 92)) (aX12_keepsWord 10 rfl) uf_RX12_656 un_RX12_656 rfl ?_
    refine pw_sd (pw_laldr (c := 153) (ix := (FI 121 92).toInt.toNat) (aX12_keepsWord 11 rfl) rfl (fun _ => ?_))
    refine pw_iloadn (aX12_keepsWord 12 rfl) rfl ?_
    refine pw_i2l (aX12_keepsWord 13 rfl) ?_
    refine pw_ite (pw_lcne (tgt := 32) (aX12_keepsWord 14 rfl) (aX12_keepsWord 15 rfl) (by decide) (fun b1 => ?_) (fun b1 => ?_))
    · skip
      refine pw_iconst (v := (1 : Int32)) (aX12_keepsWord 16 rfl) rfl ?_
      refine pw_goto (tgt := 33) (aX12_keepsWord 17 rfl) (by decide) ?_
      exact pw_iret (aX12_keepsWord 19 rfl) hok
    · skip
      refine pw_iconst (v := (0 : Int32)) (aX12_keepsWord 18 rfl) rfl ?_
      exact pw_iret (aX12_keepsWord 19 rfl) hok
  · skip
    refine pw_iconst (v := (0 : Int32)) (aX12_keepsWord 18 rfl) rfl ?_
    exact pw_iret (aX12_keepsWord 19 rfl) hok
set_option maxHeartbeats 4000000 in
set_option maxRecDepth 100000 in
theorem rX12_does {sk : xK} {base N d : Nat} (hkb : x_kb sk base)  (n sl : Nat) (SH : Nat → Nat × Nat) (FI : Nat → Nat → Int32) (FL : Nat → Nat → Int64) (FR : Nat → Nat → Option Nat) (hok : pk n SH FR)  : pw pj_I sk base N d none 258 0 [(0, .ref (base + 121))] [] (n, sl, SH, FI, FL, FR) (P_ret (fX12_does  SH FI FL FR) (n, sl, SH, FI, FL, FR)) := by
  unfold fX12_does
  refine pw_aloadn (aX12_does 0 rfl) rfl ?_
  refine pw_getr (v := .int (FI 121 104)) (aX12_does 1 rfl) uf_RX12_680 un_RX12_680 rfl ?_
  refine pw_ite (pw_ifeq (tgt := 18) (aX12_does 2 rfl) (by decide) (fun b0 => ?_) (fun b0 => ?_))
  · skip
    refine pw_iconst (v := (0 : Int32)) (aX12_does 8 rfl) rfl ?_
    exact pw_iret (aX12_does 9 rfl) hok
  · skip
    refine pw_aloadn (aX12_does 3 rfl) rfl ?_
    refine pw_getr (v := .int (FI 121 93)) (aX12_does 4 rfl) uf_RX12_653 un_RX12_653 rfl ?_
    refine pw_ite (pw_ifne (tgt := 18) (aX12_does 5 rfl) (by decide) (fun b1 => ?_) (fun b1 => ?_))
    · skip
      refine pw_iconst (v := (1 : Int32)) (aX12_does 6 rfl) rfl ?_
      refine pw_goto (tgt := 19) (aX12_does 7 rfl) (by decide) ?_
      exact pw_iret (aX12_does 9 rfl) hok
    · skip
      refine pw_iconst (v := (0 : Int32)) (aX12_does 8 rfl) rfl ?_
      exact pw_iret (aX12_does 9 rfl) hok
set_option maxHeartbeats 4000000 in
set_option maxRecDepth 100000 in
theorem rX12_value {sk : xK} {base N d : Nat} (hkb : x_kb sk base) (a1 : Int64) (n sl : Nat) (SH : Nat → Nat × Nat) (FI : Nat → Nat → Int32) (FL : Nat → Nat → Int64) (FR : Nat → Nat → Option Nat) (hok : pk n SH FR)  : pw pj_V sk base N d none 259 0 [(0, .ref (base + 121)), (1, .long (a1))] [] (n, sl, SH, FI, FL, FR) (RX12_value a1 n sl SH FI FL FR) := by
  unfold RX12_value
  refine pw_aloadn (aX12_value 0 rfl) rfl ?_
  refine pw_getr (v := .ref (base + 173)) (aX12_value 1 rfl) uf_RX12_178 un_RX12_178 (congrArg (fun r => va_rf (h_rf base r)) (q121_100 (hok).2.1)) ?_
  refine pw_aloadn (aX12_value 2 rfl) rfl ?_
  refine pw_getr (v := .int (FI 121 101)) (aX12_value 3 rfl) uf_RX12_683 un_RX12_683 rfl ?_
  refine pw_lloadn (aX12_value 4 rfl) rfl ?_
  refine pw_lastr (c := 173) (ix := (FI 121 101).toInt.toNat) (aX12_value 5 rfl) rfl (fun _ => ?_)
  refine pw_aloadn (aX12_value 6 rfl) rfl ?_
  refine pw_aloadn (aX12_value 7 rfl) rfl ?_
  refine pw_getr (v := .int (FI 121 101)) (aX12_value 8 rfl) uf_RX12_683 un_RX12_683 rfl ?_
  refine pw_iconst (v := (1 : Int32)) (aX12_value 9 rfl) rfl ?_
  refine pw_iadd (aX12_value 10 rfl) ?_
  refine pw_putri (aX12_value 11 rfl) uf_RX12_683 (fun _ _ _ => rfl) (fun t1 => ?_)
  exact pw_vret (aX12_value 12 rfl) hok
set_option maxHeartbeats 4000000 in
set_option maxRecDepth 100000 in
theorem rX12_bases {sk : xK} {base N d : Nat} (hkb : x_kb sk base)  (n sl : Nat) (SH : Nat → Nat × Nat) (FI : Nat → Nat → Int32) (FL : Nat → Nat → Int64) (FR : Nat → Nat → Option Nat) (hok : pk n SH FR)  : pw pj_V sk base N d none 262 0 [(0, .ref (base + 121))] [] (n, sl, SH, FI, FL, FR) (RX12_bases  n sl SH FI FL FR) := by
  unfold RX12_bases
  refine pw_aloadn (aX12_bases 0 rfl) rfl ?_
  refine pw_getr (v := .int (FI 121 5)) (aX12_bases 1 rfl) uf_RX12_23 un_RX12_23 rfl ?_
  refine pw_iconst (v := (-1 : Int32)) (aX12_bases 2 rfl) rfl ?_
  refine pw_icne (tgt := 15) (aX12_bases 3 rfl) (by decide) (fun b0 => ?_) (fun b0 => ?_)
  · skip
    refine pw_aloadn (aX12_bases 4 rfl) rfl ?_
    refine pw_bipush (v := (11 : Int32)) (aX12_bases 5 rfl) rfl ?_
    refine pw_putri (aX12_bases 6 rfl) uf_RX12_653 (fun _ _ _ => rfl) (fun t2 => ?_)
    exact pw_vret (aX12_bases 7 rfl) hok
  · skip
    refine pw_aloadn (aX12_bases 8 rfl) rfl ?_
    refine pw_sipush (v := (1000 : Int32)) (aX12_bases 9 rfl) rfl ?_
    refine pw_callV (Bs := [.int ((1000 : Int32))]) (rest := []) (aX12_bases 10 rfl) um_RX12_373 ujX12_begins wc_RX12_373.2.2.2.2 (by decide) (by decide) rfl rfl (fun d => rX12_begins hkb ((1000 : Int32)) n sl SH FI FL FR hok) (fun v2 n2 sl2 SH2 FI2 FL2 FR2 hok2 _ => ?_)
    show pw _ _ _ _ _ _ _ 22 _ [] _ _
    refine pw_aloadn (aX12_bases 11 rfl) rfl ?_
    refine pw_aloadn (aX12_bases 12 rfl) rfl ?_
    refine pw_iconst (v := (1 : Int32)) (aX12_bases 13 rfl) rfl ?_
    refine pw_sipush (v := (600 : Int32)) (aX12_bases 14 rfl) rfl ?_
    refine pw_aloadn (aX12_bases 15 rfl) rfl ?_
    refine pw_getr (v := .int (FI2 121 5)) (aX12_bases 16 rfl) uf_RX12_23 un_RX12_23 rfl ?_
    refine pw_imul (aX12_bases 17 rfl) ?_
    refine pw_sipush (v := (600 : Int32)) (aX12_bases 18 rfl) rfl ?_
    refine pw_aloadn (aX12_bases 19 rfl) rfl ?_
    refine pw_getr (v := .int (FI2 121 5)) (aX12_bases 20 rfl) uf_RX12_23 un_RX12_23 rfl ?_
    refine pw_imul (aX12_bases 21 rfl) ?_
    refine pw_aloadn (aX12_bases 22 rfl) rfl ?_
    refine pw_getr (v := .ref (base + 125)) (aX12_bases 23 rfl) uf_RX12_20 un_RX12_20 (congrArg (fun r => va_rf (h_rf base r)) (q121_4 (hok2).2.1)) ?_
    refine pw_aloadn (aX12_bases 24 rfl) rfl ?_
    refine pw_getr (v := .int (FI2 121 5)) (aX12_bases 25 rfl) uf_RX12_23 un_RX12_23 rfl ?_
    refine pw_ialdr (c := 125) (ix := (FI2 121 5).toInt.toNat) (aX12_bases 26 rfl) rfl (fun _ => ?_)
    refine pw_iadd (aX12_bases 27 rfl) ?_
    refine pw_callV (Bs := [.int ((1 : Int32)), .int (((600 : Int32)) * (FI2 121 5)), .int ((((600 : Int32)) * (FI2 121 5)) + (FI2 125 (FI2 121 5).toInt.toNat))]) (rest := [.ref (base + 121)]) (aX12_bases 28 rfl) um_RX12_376 ujX12_exec wc_RX12_376.2.2.2.2 (by decide) (by decide) rfl rfl (fun d => rX12_exec hkb ((1 : Int32)) (((600 : Int32)) * (FI2 121 5)) ((((600 : Int32)) * (FI2 121 5)) + (FI2 125 (FI2 121 5).toInt.toNat)) n2 sl2 SH2 FI2 FL2 FR2 hok2) (fun v3 n3 sl3 SH3 FI3 FL3 FR3 hok3 _ => ?_)
    show pw _ _ _ _ _ _ _ 54 _ [.int (v3), .ref (base + 121)] _ _
    refine pw_putri (aX12_bases 29 rfl) uf_RX12_653 (fun _ _ _ => rfl) (fun t5 => ?_)
    exact pw_vret (aX12_bases 30 rfl) hok3
set_option maxHeartbeats 4000000 in
set_option maxRecDepth 100000 in
theorem rX12_meansFinished_195 {sk : xK} {base N d : Nat} {K0 : Nat → Nat → (Nat → Nat × Nat) → (Nat → Nat → Int32) → (Nat → Nat → Int64) → (Nat → Nat → Option Nat) → Unit → hS → Prop} (hkb : x_kb sk base)   (l1i : Int32) (l2l : Int64) (l4i : Int32) (n sl : Nat) (SH : Nat → Nat × Nat) (FI : Nat → Nat → Int32) (FL : Nat → Nat → Int64) (FR : Nat → Nat → Option Nat) (hok : pk n SH FR)  (hK0 : ∀ (l1i : Int32) (l2l : Int64) (l4i : Int32) (n sl : Nat) (SH : Nat → Nat × Nat) (FI : Nat → Nat → Int32) (FL : Nat → Nat → Int64) (FR : Nat → Nat → Option Nat), pk n SH FR → pw pj_V sk base N d none 263 0 [(0, .ref (base + 121)), (1, .int (l1i)), (2, .long (l2l)), (4, .int (l4i))] [] (n, sl, SH, FI, FL, FR) (K0  n sl SH FI FL FR)) : pw pj_V sk base N d none 263 195 [(0, .ref (base + 121)), (1, .int (l1i)), (2, .long (l2l)), (4, .int (l4i))] [] (n, sl, SH, FI, FL, FR) (RX12_meansFinished_195 K0   n sl SH FI FL FR) := by
  unfold RX12_meansFinished_195
  refine pw_goto (tgt := 0) (aX12_meansFinished 108 rfl) (by decide) ?_
  exact pw_Li (L2 := [(0, .ref (base + 121)), (1, .int (l1i)), (2, .long (l2l)), (4, .int (l4i))]) [0, 1, 2, 3] (hK0 (l1i) (l2l) (l4i) n sl SH FI FL FR hok) ⟨rfl, rfl, rfl, rfl, trivial⟩
set_option maxHeartbeats 4000000 in
set_option maxRecDepth 100000 in
theorem rX12_meansFinished_115 {sk : xK} {base N d : Nat} {K0 : Nat → Nat → (Nat → Nat × Nat) → (Nat → Nat → Int32) → (Nat → Nat → Int64) → (Nat → Nat → Option Nat) → Unit → hS → Prop} (hkb : x_kb sk base)  (l2l : Int64) (l1i : Int32) (l4i : Int32) (n sl : Nat) (SH : Nat → Nat × Nat) (FI : Nat → Nat → Int32) (FL : Nat → Nat → Int64) (FR : Nat → Nat → Option Nat) (hok : pk n SH FR)  (hK0 : ∀ (l1i : Int32) (l2l : Int64) (l4i : Int32) (n sl : Nat) (SH : Nat → Nat × Nat) (FI : Nat → Nat → Int32) (FL : Nat → Nat → Int64) (FR : Nat → Nat → Option Nat), pk n SH FR → pw pj_V sk base N d none 263 0 [(0, .ref (base + 121)), (1, .int (l1i)), (2, .long (l2l)), (4, .int (l4i))] [] (n, sl, SH, FI, FL, FR) (K0  n sl SH FI FL FR)) : pw pj_V sk base N d none 263 115 [(0, .ref (base + 121)), (1, .int (l1i)), (2, .long (l2l)), (4, .int (l4i))] [] (n, sl, SH, FI, FL, FR) (RX12_meansFinished_115 K0  l2l n sl SH FI FL FR) := by
  unfold RX12_meansFinished_115
  refine pw_aloadn (aX12_meansFinished 63 rfl) rfl ?_
  refine pw_getr (v := .ref (base + 173)) (aX12_meansFinished 64 rfl) uf_RX12_178 un_RX12_178 (congrArg (fun r => va_rf (h_rf base r)) (q121_100 (hok).2.1)) ?_
  refine pw_aloadn (aX12_meansFinished 65 rfl) rfl ?_
  refine pw_getr (v := .int (FI 121 101)) (aX12_meansFinished 66 rfl) uf_RX12_683 un_RX12_683 rfl ?_
  refine pw_iconst (v := (1 : Int32)) (aX12_meansFinished 67 rfl) rfl ?_
  refine pw_isub (aX12_meansFinished 68 rfl) ?_
  refine pw_aloadn (aX12_meansFinished 69 rfl) rfl ?_
  refine pw_getr (v := .long (FL 121 9)) (aX12_meansFinished 70 rfl) uf_RX12_212 un_RX12_212 rfl ?_
  refine pw_lloadn (aX12_meansFinished 71 rfl) rfl ?_
  refine pw_ladd (aX12_meansFinished 72 rfl) ?_
  refine pw_lastr (c := 173) (ix := ((FI 121 101) - ((1 : Int32))).toInt.toNat) (aX12_meansFinished 73 rfl) rfl (fun _ => ?_)
  refine pw_goto (tgt := 195) (aX12_meansFinished 74 rfl) (by decide) ?_
  exact pw_Li (L2 := [(0, .ref (base + 121)), (1, .int (l1i)), (2, .long (l2l)), (4, .int (l4i))]) [0, 1, 2, 3] (rX12_meansFinished_195 hkb  (l1i) (l2l) (l4i) n sl SH FI (h_up FL 173 ((FI 121 101) - ((1 : Int32))).toInt.toNat ((FL 121 9) + (l2l))) FR hok  hK0) ⟨rfl, rfl, rfl, rfl, trivial⟩
set_option maxHeartbeats 4000000 in
set_option maxRecDepth 100000 in
theorem rX12_meansFinished_194 {sk : xK} {base N d : Nat} {K0 : Nat → Nat → (Nat → Nat × Nat) → (Nat → Nat → Int32) → (Nat → Nat → Int64) → (Nat → Nat → Option Nat) → Unit → hS → Prop} (hkb : x_kb sk base)  (s0l : Int64) (s1i : Int32) (l1i : Int32) (l2l : Int64) (l4i : Int32) (n sl : Nat) (SH : Nat → Nat × Nat) (FI : Nat → Nat → Int32) (FL : Nat → Nat → Int64) (FR : Nat → Nat → Option Nat) (hok : pk n SH FR)  (hK0 : ∀ (l1i : Int32) (l2l : Int64) (l4i : Int32) (n sl : Nat) (SH : Nat → Nat × Nat) (FI : Nat → Nat → Int32) (FL : Nat → Nat → Int64) (FR : Nat → Nat → Option Nat), pk n SH FR → pw pj_V sk base N d none 263 0 [(0, .ref (base + 121)), (1, .int (l1i)), (2, .long (l2l)), (4, .int (l4i))] [] (n, sl, SH, FI, FL, FR) (K0  n sl SH FI FL FR)) : pw pj_V sk base N d none 263 194 [(0, .ref (base + 121)), (1, .int (l1i)), (2, .long (l2l)), (4, .int (l4i))] [.long (s0l), .int (s1i), .ref (base + 173)] (n, sl, SH, FI, FL, FR) (RX12_meansFinished_194 K0  s0l s1i n sl SH FI FL FR) := by
  unfold RX12_meansFinished_194
  refine pw_lastr (c := 173) (ix := (s1i).toInt.toNat) (aX12_meansFinished 107 rfl) rfl (fun _ => ?_)
  exact pw_Li (L2 := [(0, .ref (base + 121)), (1, .int (l1i)), (2, .long (l2l)), (4, .int (l4i))]) [0, 1, 2, 3] (rX12_meansFinished_195 hkb  (l1i) (l2l) (l4i) n sl SH FI (h_up FL 173 (s1i).toInt.toNat (s0l)) FR hok  hK0) ⟨rfl, rfl, rfl, rfl, trivial⟩
set_option maxHeartbeats 4000000 in
set_option maxRecDepth 100000 in
theorem rX12_meansFinished_165 {sk : xK} {base N d : Nat} {K0 : Nat → Nat → (Nat → Nat × Nat) → (Nat → Nat → Int32) → (Nat → Nat → Int64) → (Nat → Nat → Option Nat) → Unit → hS → Prop} (hkb : x_kb sk base)  (l1i : Int32) (l2l : Int64) (l4i : Int32)  (n sl : Nat) (SH : Nat → Nat × Nat) (FI : Nat → Nat → Int32) (FL : Nat → Nat → Int64) (FR : Nat → Nat → Option Nat) (hok : pk n SH FR)  (hK0 : ∀ (l1i : Int32) (l2l : Int64) (l4i : Int32) (n sl : Nat) (SH : Nat → Nat × Nat) (FI : Nat → Nat → Int32) (FL : Nat → Nat → Int64) (FR : Nat → Nat → Option Nat), pk n SH FR → pw pj_V sk base N d none 263 0 [(0, .ref (base + 121)), (1, .int (l1i)), (2, .long (l2l)), (4, .int (l4i))] [] (n, sl, SH, FI, FL, FR) (K0  n sl SH FI FL FR)) : pw pj_V sk base N d none 263 165 [(0, .ref (base + 121)), (1, .int (l1i)), (2, .long (l2l)), (4, .int (l4i))] [] (n, sl, SH, FI, FL, FR) (RX12_meansFinished_165 K0  l1i l2l l4i n sl SH FI FL FR) := by
  unfold RX12_meansFinished_165
  refine pw_aloadn (aX12_meansFinished 91 rfl) rfl ?_
  refine pw_getr (v := .ref (base + 173)) (aX12_meansFinished 92 rfl) uf_RX12_178 un_RX12_178 (congrArg (fun r => va_rf (h_rf base r)) (q121_100 (hok).2.1)) ?_
  refine pw_aloadn (aX12_meansFinished 93 rfl) rfl ?_
  refine pw_getr (v := .int (FI 121 101)) (aX12_meansFinished 94 rfl) uf_RX12_683 un_RX12_683 rfl ?_
  refine pw_iconst (v := (1 : Int32)) (aX12_meansFinished 95 rfl) rfl ?_
  refine pw_isub (aX12_meansFinished 96 rfl) ?_
  refine pw_iload (aX12_meansFinished 97 rfl) rfl ?_
  refine pw_ifeq (tgt := 193) (aX12_meansFinished 98 rfl) (by decide) (fun b0 => ?_) (fun b0 => ?_)
  · skip
    refine pw_lconst (v := (0 : Int64)) (aX12_meansFinished 106 rfl) rfl ?_
    exact pw_Li (L2 := [(0, .ref (base + 121)), (1, .int (l1i)), (2, .long (l2l)), (4, .int (l4i))]) [0, 1, 2, 3] (rX12_meansFinished_194 hkb  ((0 : Int64)) ((FI 121 101) - ((1 : Int32))) (l1i) (l2l) (l4i) n sl SH FI FL FR hok  hK0) ⟨rfl, rfl, rfl, rfl, trivial⟩
  · skip
    refine pw_aloadn (aX12_meansFinished 99 rfl) rfl ?_
    refine pw_lloadn (aX12_meansFinished 100 rfl) rfl ?_
    refine pw_iloadn (aX12_meansFinished 101 rfl) rfl ?_
    refine pw_sipush (v := (256 : Int32)) (aX12_meansFinished 102 rfl) rfl ?_
    refine pw_isub (aX12_meansFinished 103 rfl) ?_
    refine pw_callV (Bs := [.long (l2l), .int ((l1i) - ((256 : Int32)))]) (rest := [.int ((FI 121 101) - ((1 : Int32))), .ref (base + 173)]) (aX12_meansFinished 104 rfl) um_RX12_342 ujX12_read wc_RX12_342.2.2.2.2 (by decide) (by decide) rfl rfl (fun d => rX12_read hkb (l2l) ((l1i) - ((256 : Int32))) n sl SH FI FL FR hok) (fun v1 n1 sl1 SH1 FI1 FL1 FR1 hok1 _ => ?_)
    show pw _ _ _ _ _ _ _ 190 _ [.long (v1), .int ((FI 121 101) - ((1 : Int32))), .ref (base + 173)] _ _
    refine pw_goto (tgt := 194) (aX12_meansFinished 105 rfl) (by decide) ?_
    exact pw_Li (L2 := [(0, .ref (base + 121)), (1, .int (l1i)), (2, .long (l2l)), (4, .int (l4i))]) [0, 1, 2, 3] (rX12_meansFinished_194 hkb  (v1) ((FI 121 101) - ((1 : Int32))) (l1i) (l2l) (l4i) n1 sl1 SH1 FI1 FL1 FR1 hok1  hK0) ⟨rfl, rfl, rfl, rfl, trivial⟩
set_option maxHeartbeats 4000000 in
set_option maxRecDepth 100000 in
theorem bX12_meansFinished_0 {sk : xK} {base N d : Nat} {K0 : Nat → Nat → (Nat → Nat × Nat) → (Nat → Nat → Int32) → (Nat → Nat → Int64) → (Nat → Nat → Option Nat) → Unit → hS → Prop} (hkb : x_kb sk base)   (l1i : Int32) (l2l : Int64) (l4i : Int32) (n sl : Nat) (SH : Nat → Nat × Nat) (FI : Nat → Nat → Int32) (FL : Nat → Nat → Int64) (FR : Nat → Nat → Option Nat) (hok : pk n SH FR)  (hK0 : ∀ (l1i : Int32) (l2l : Int64) (l4i : Int32) (n sl : Nat) (SH : Nat → Nat × Nat) (FI : Nat → Nat → Int32) (FL : Nat → Nat → Int64) (FR : Nat → Nat → Option Nat), pk n SH FR → pw pj_V sk base N d none 263 0 [(0, .ref (base + 121)), (1, .int (l1i)), (2, .long (l2l)), (4, .int (l4i))] [] (n, sl, SH, FI, FL, FR) (K0  n sl SH FI FL FR)) : pw pj_V sk base (N + 1) d none 263 0 [(0, .ref (base + 121)), (1, .int (l1i)), (2, .long (l2l)), (4, .int (l4i))] [] (n, sl, SH, FI, FL, FR) (BX12_meansFinished_0 K0   n sl SH FI FL FR) := by
  unfold BX12_meansFinished_0
  refine pd_aloadn (aX12_meansFinished 0 rfl) rfl ?_
  refine pw_cf (pw_callV (Bs := []) (rest := []) (aX12_meansFinished 1 rfl) um_RX12_559 ujX12_tops wc_RX12_559.2.2.2.2 (by decide) (by decide) rfl rfl (fun d => rX12_tops hkb  n sl SH FI FL FR hok) (fun v0 n0 sl0 SH0 FI0 FL0 FR0 _ hC => ?_))
  obtain ⟨rfl, hC⟩ := hC; cases hC
  show pw _ _ _ _ _ _ _ 4 _ [.int (fX12_tops  SH FI FL FR)] _ _
  refine pw_bipush (v := (9 : Int32)) (aX12_meansFinished 2 rfl) rfl ?_
  refine pw_icne (tgt := 198) (aX12_meansFinished 3 rfl) (by decide) (fun b1 => ?_) (fun b1 => ?_)
  · skip
    refine pw_aloadn (aX12_meansFinished 4 rfl) rfl ?_
    refine pw_aloadn (aX12_meansFinished 5 rfl) rfl ?_
    refine pw_getr (v := .int (FI 121 90)) (aX12_meansFinished 6 rfl) uf_RX12_556 un_RX12_556 rfl ?_
    refine pw_iconst (v := (1 : Int32)) (aX12_meansFinished 7 rfl) rfl ?_
    refine pw_isub (aX12_meansFinished 8 rfl) ?_
    refine pw_putri (aX12_meansFinished 9 rfl) uf_RX12_556 (fun _ _ _ => rfl) (fun t3 => ?_)
    refine pw_aloadn (aX12_meansFinished 10 rfl) rfl ?_
    refine pw_getr (v := .ref (base + 165)) (aX12_meansFinished 11 rfl) uf_RX12_154 un_RX12_154 (congrArg (fun r => va_rf (h_rf base r)) (q121_86 (hok).2.1)) ?_
    refine pw_aloadn (aX12_meansFinished 12 rfl) rfl ?_
    refine pw_getr (v := .int ((FI 121 90) - ((1 : Int32)))) (aX12_meansFinished 13 rfl) uf_RX12_556 un_RX12_556 rfl ?_
    refine pw_ialdr (c := 165) (ix := ((FI 121 90) - ((1 : Int32))).toInt.toNat) (aX12_meansFinished 14 rfl) rfl (fun _ => ?_)
    refine pw_istoren (L2 := [(1, .int (FI 165 ((FI 121 90) - ((1 : Int32))).toInt.toNat)), (0, .ref (base + 121)), (2, .long (l2l)), (4, .int (l4i))]) (aX12_meansFinished 15 rfl) rfl ?_
    refine pw_aloadn (aX12_meansFinished 16 rfl) rfl ?_
    refine pw_getr (v := .ref (base + 173)) (aX12_meansFinished 17 rfl) uf_RX12_178 un_RX12_178 (congrArg (fun r => va_rf (h_rf base r)) (q121_100 (hok).2.1)) ?_
    refine pw_aloadn (aX12_meansFinished 18 rfl) rfl ?_
    refine pw_getr (v := .int (FI 121 101)) (aX12_meansFinished 19 rfl) uf_RX12_683 un_RX12_683 rfl ?_
    refine pw_iconst (v := (1 : Int32)) (aX12_meansFinished 20 rfl) rfl ?_
    refine pw_isub (aX12_meansFinished 21 rfl) ?_
    refine pw_laldr (c := 173) (ix := ((FI 121 101) - ((1 : Int32))).toInt.toNat) (aX12_meansFinished 22 rfl) rfl (fun _ => ?_)
    refine pw_lstoren (L2 := [(2, .long (FL 173 ((FI 121 101) - ((1 : Int32))).toInt.toNat)), (1, .int (FI 165 ((FI 121 90) - ((1 : Int32))).toInt.toNat)), (0, .ref (base + 121)), (4, .int (l4i))]) (aX12_meansFinished 23 rfl) rfl ?_
    refine pw_iloadn (aX12_meansFinished 24 rfl) rfl ?_
    refine pw_bipush (v := (31 : Int32)) (aX12_meansFinished 25 rfl) rfl ?_
    refine pw_icne (tgt := 63) (aX12_meansFinished 26 rfl) (by decide) (fun b3 => ?_) (fun b3 => ?_)
    · skip
      refine pw_aloadn (aX12_meansFinished 27 rfl) rfl ?_
      refine pw_getr (v := .ref (base + 173)) (aX12_meansFinished 28 rfl) uf_RX12_178 un_RX12_178 (congrArg (fun r => va_rf (h_rf base r)) (q121_100 (hok).2.1)) ?_
      refine pw_aloadn (aX12_meansFinished 29 rfl) rfl ?_
      refine pw_getr (v := .int (FI 121 101)) (aX12_meansFinished 30 rfl) uf_RX12_683 un_RX12_683 rfl ?_
      refine pw_iconst (v := (1 : Int32)) (aX12_meansFinished 31 rfl) rfl ?_
      refine pw_isub (aX12_meansFinished 32 rfl) ?_
      refine pw_lloadn (aX12_meansFinished 33 rfl) rfl ?_
      refine pw_lneg (aX12_meansFinished 34 rfl) ?_
      refine pw_lastr (c := 173) (ix := ((FI 121 101) - ((1 : Int32))).toInt.toNat) (aX12_meansFinished 35 rfl) rfl (fun _ => ?_)
      refine pw_goto (tgt := 195) (aX12_meansFinished 36 rfl) (by decide) ?_
      exact pw_Li (L2 := [(0, .ref (base + 121)), (1, .int (FI 165 ((FI 121 90) - ((1 : Int32))).toInt.toNat)), (2, .long (FL 173 ((FI 121 101) - ((1 : Int32))).toInt.toNat)), (4, .int (l4i))]) [2, 1, 0, 3] (rX12_meansFinished_195 hkb  (FI 165 ((FI 121 90) - ((1 : Int32))).toInt.toNat) (FL 173 ((FI 121 101) - ((1 : Int32))).toInt.toNat) (l4i) n sl SH (h_up FI 121 90 ((FI 121 90) - ((1 : Int32)))) (h_up FL 173 ((FI 121 101) - ((1 : Int32))).toInt.toNat (-(FL 173 ((FI 121 101) - ((1 : Int32))).toInt.toNat))) FR hok  hK0) ⟨rfl, rfl, rfl, rfl, trivial⟩
    · skip
      refine pw_iloadn (aX12_meansFinished 37 rfl) rfl ?_
      refine pw_bipush (v := (32 : Int32)) (aX12_meansFinished 38 rfl) rfl ?_
      refine pw_icne (tgt := 88) (aX12_meansFinished 39 rfl) (by decide) (fun b4 => ?_) (fun b4 => ?_)
      · skip
        refine pw_aloadn (aX12_meansFinished 40 rfl) rfl ?_
        refine pw_getr (v := .ref (base + 173)) (aX12_meansFinished 41 rfl) uf_RX12_178 un_RX12_178 (congrArg (fun r => va_rf (h_rf base r)) (q121_100 (hok).2.1)) ?_
        refine pw_aloadn (aX12_meansFinished 42 rfl) rfl ?_
        refine pw_getr (v := .int (FI 121 101)) (aX12_meansFinished 43 rfl) uf_RX12_683 un_RX12_683 rfl ?_
        refine pw_iconst (v := (1 : Int32)) (aX12_meansFinished 44 rfl) rfl ?_
        refine pw_isub (aX12_meansFinished 45 rfl) ?_
        refine pw_lloadn (aX12_meansFinished 46 rfl) rfl ?_
        refine pw_ldc2 (v := (-1 : Int64)) (aX12_meansFinished 47 rfl) uk_RX12_226 ?_
        refine pw_lxor (aX12_meansFinished 48 rfl) ?_
        refine pw_lastr (c := 173) (ix := ((FI 121 101) - ((1 : Int32))).toInt.toNat) (aX12_meansFinished 49 rfl) rfl (fun _ => ?_)
        refine pw_goto (tgt := 195) (aX12_meansFinished 50 rfl) (by decide) ?_
        exact pw_Li (L2 := [(0, .ref (base + 121)), (1, .int (FI 165 ((FI 121 90) - ((1 : Int32))).toInt.toNat)), (2, .long (FL 173 ((FI 121 101) - ((1 : Int32))).toInt.toNat)), (4, .int (l4i))]) [2, 1, 0, 3] (rX12_meansFinished_195 hkb  (FI 165 ((FI 121 90) - ((1 : Int32))).toInt.toNat) (FL 173 ((FI 121 101) - ((1 : Int32))).toInt.toNat) (l4i) n sl SH (h_up FI 121 90 ((FI 121 90) - ((1 : Int32)))) (h_up FL 173 ((FI 121 101) - ((1 : Int32))).toInt.toNat ((FL 173 ((FI 121 101) - ((1 : Int32))).toInt.toNat) ^^^ ((-1 : Int64)))) FR hok  hK0) ⟨rfl, rfl, rfl, rfl, trivial⟩
      · skip
        refine pw_iloadn (aX12_meansFinished 51 rfl) rfl ?_
        refine pw_sipush (v := (155 : Int32)) (aX12_meansFinished 52 rfl) rfl ?_
        refine pw_icne (tgt := 135) (aX12_meansFinished 53 rfl) (by decide) (fun b5 => ?_) (fun b5 => ?_)
        · skip
          refine pw_aloadn (aX12_meansFinished 54 rfl) rfl ?_
          refine pw_cf (pw_callV (Bs := []) (rest := []) (aX12_meansFinished 55 rfl) um_RX12_704 ujX12_does wc_RX12_704.2.2.2.2 (by decide) (by decide) rfl rfl (fun d => rX12_does hkb  n sl SH (h_up FI 121 90 ((FI 121 90) - ((1 : Int32)))) FL FR hok) (fun v6 n6 sl6 SH6 FI6 FL6 FR6 _ hC => ?_))
          obtain ⟨rfl, hC⟩ := hC; cases hC
          show pw _ _ _ _ _ _ _ 99 _ [.int (fX12_does  SH (h_up FI 121 90 ((FI 121 90) - ((1 : Int32)))) FL FR)] _ _
          refine pw_ifeq (tgt := 115) (aX12_meansFinished 56 rfl) (by decide) (fun b7 => ?_) (fun b7 => ?_)
          · skip
            exact pw_Li (L2 := [(0, .ref (base + 121)), (1, .int (FI 165 ((FI 121 90) - ((1 : Int32))).toInt.toNat)), (2, .long (FL 173 ((FI 121 101) - ((1 : Int32))).toInt.toNat)), (4, .int (l4i))]) [2, 1, 0, 3] (rX12_meansFinished_115 hkb  (FL 173 ((FI 121 101) - ((1 : Int32))).toInt.toNat) (FI 165 ((FI 121 90) - ((1 : Int32))).toInt.toNat) (l4i) n sl SH (h_up FI 121 90 ((FI 121 90) - ((1 : Int32)))) FL FR hok  hK0) ⟨rfl, rfl, rfl, rfl, trivial⟩
          · skip
            refine pw_aloadn (aX12_meansFinished 57 rfl) rfl ?_
            refine pw_getr (v := .int (FI 121 11)) (aX12_meansFinished 58 rfl) uf_RX12_215 un_RX12_215 rfl ?_
            refine pw_ifne (tgt := 115) (aX12_meansFinished 59 rfl) (by decide) (fun b8 => ?_) (fun b8 => ?_)
            · skip
              refine pw_aloadn (aX12_meansFinished 60 rfl) rfl ?_
              refine pw_bipush (v := (11 : Int32)) (aX12_meansFinished 61 rfl) rfl ?_
              refine pw_putri (aX12_meansFinished 62 rfl) uf_RX12_653 (fun _ _ _ => rfl) (fun t10 => ?_)
              exact pw_Li (L2 := [(0, .ref (base + 121)), (1, .int (FI 165 ((FI 121 90) - ((1 : Int32))).toInt.toNat)), (2, .long (FL 173 ((FI 121 101) - ((1 : Int32))).toInt.toNat)), (4, .int (l4i))]) [2, 1, 0, 3] (rX12_meansFinished_115 hkb  (FL 173 ((FI 121 101) - ((1 : Int32))).toInt.toNat) (FI 165 ((FI 121 90) - ((1 : Int32))).toInt.toNat) (l4i) n sl SH (h_up (h_up FI 121 90 ((FI 121 90) - ((1 : Int32)))) 121 93 ((11 : Int32))) FL FR hok  hK0) ⟨rfl, rfl, rfl, rfl, trivial⟩
            · skip
              exact pw_Li (L2 := [(0, .ref (base + 121)), (1, .int (FI 165 ((FI 121 90) - ((1 : Int32))).toInt.toNat)), (2, .long (FL 173 ((FI 121 101) - ((1 : Int32))).toInt.toNat)), (4, .int (l4i))]) [2, 1, 0, 3] (rX12_meansFinished_115 hkb  (FL 173 ((FI 121 101) - ((1 : Int32))).toInt.toNat) (FI 165 ((FI 121 90) - ((1 : Int32))).toInt.toNat) (l4i) n sl SH (h_up FI 121 90 ((FI 121 90) - ((1 : Int32)))) FL FR hok  hK0) ⟨rfl, rfl, rfl, rfl, trivial⟩
        · skip
          refine pw_aloadn (aX12_meansFinished 75 rfl) rfl ?_
          refine pw_cf (pw_callV (Bs := []) (rest := []) (aX12_meansFinished 76 rfl) um_RX12_704 ujX12_does wc_RX12_704.2.2.2.2 (by decide) (by decide) rfl rfl (fun d => rX12_does hkb  n sl SH (h_up FI 121 90 ((FI 121 90) - ((1 : Int32)))) FL FR hok) (fun v10 n10 sl10 SH10 FI10 FL10 FR10 _ hC => ?_))
          obtain ⟨rfl, hC⟩ := hC; cases hC
          show pw _ _ _ _ _ _ _ 139 _ [.int (fX12_does  SH (h_up FI 121 90 ((FI 121 90) - ((1 : Int32)))) FL FR)] _ _
          refine pw_ifeq (tgt := 195) (aX12_meansFinished 77 rfl) (by decide) (fun b11 => ?_) (fun b11 => ?_)
          · skip
            exact pw_Li (L2 := [(0, .ref (base + 121)), (1, .int (FI 165 ((FI 121 90) - ((1 : Int32))).toInt.toNat)), (2, .long (FL 173 ((FI 121 101) - ((1 : Int32))).toInt.toNat)), (4, .int (l4i))]) [2, 1, 0, 3] (rX12_meansFinished_195 hkb  (FI 165 ((FI 121 90) - ((1 : Int32))).toInt.toNat) (FL 173 ((FI 121 101) - ((1 : Int32))).toInt.toNat) (l4i) n sl SH (h_up FI 121 90 ((FI 121 90) - ((1 : Int32)))) FL FR hok  hK0) ⟨rfl, rfl, rfl, rfl, trivial⟩
          · skip
            refine pw_aloadn (aX12_meansFinished 78 rfl) rfl ?_
            refine pw_lloadn (aX12_meansFinished 79 rfl) rfl ?_
            refine pw_iloadn (aX12_meansFinished 80 rfl) rfl ?_
            refine pw_sipush (v := (256 : Int32)) (aX12_meansFinished 81 rfl) rfl ?_
            refine pw_isub (aX12_meansFinished 82 rfl) ?_
            refine pw_i2l (aX12_meansFinished 83 rfl) ?_
            refine pw_cf (pw_callV (Bs := [.long (FL 173 ((FI 121 101) - ((1 : Int32))).toInt.toNat), .long (((FI 165 ((FI 121 90) - ((1 : Int32))).toInt.toNat) - ((256 : Int32))).toInt64)]) (rest := []) (aX12_meansFinished 84 rfl) um_RX12_327 ujX12_isThere wc_RX12_327.2.2.2.2 (by decide) (by decide) rfl rfl (fun d => rX12_isThere hkb (FL 173 ((FI 121 101) - ((1 : Int32))).toInt.toNat) (((FI 165 ((FI 121 90) - ((1 : Int32))).toInt.toNat) - ((256 : Int32))).toInt64) n sl SH (h_up FI 121 90 ((FI 121 90) - ((1 : Int32)))) FL FR hok) (fun v12 n12 sl12 SH12 FI12 FL12 FR12 _ hC => ?_))
            obtain ⟨rfl, hC⟩ := hC; cases hC
            show pw _ _ _ _ _ _ _ 153 _ [.int (fX12_isThere (FL 173 ((FI 121 101) - ((1 : Int32))).toInt.toNat) (((FI 165 ((FI 121 90) - ((1 : Int32))).toInt.toNat) - ((256 : Int32))).toInt64) SH (h_up FI 121 90 ((FI 121 90) - ((1 : Int32)))) FL FR)] _ _
            refine pw_istore (L2 := [(4, .int (fX12_isThere (FL 173 ((FI 121 101) - ((1 : Int32))).toInt.toNat) (((FI 165 ((FI 121 90) - ((1 : Int32))).toInt.toNat) - ((256 : Int32))).toInt64) SH (h_up FI 121 90 ((FI 121 90) - ((1 : Int32)))) FL FR)), (2, .long (FL 173 ((FI 121 101) - ((1 : Int32))).toInt.toNat)), (1, .int (FI 165 ((FI 121 90) - ((1 : Int32))).toInt.toNat)), (0, .ref (base + 121))]) (aX12_meansFinished 85 rfl) rfl ?_
            refine pw_iload (aX12_meansFinished 86 rfl) rfl ?_
            refine pw_ifne (tgt := 165) (aX12_meansFinished 87 rfl) (by decide) (fun b13 => ?_) (fun b13 => ?_)
            · skip
              refine pw_aloadn (aX12_meansFinished 88 rfl) rfl ?_
              refine pw_iconst (v := (5 : Int32)) (aX12_meansFinished 89 rfl) rfl ?_
              refine pw_putri (aX12_meansFinished 90 rfl) uf_RX12_653 (fun _ _ _ => rfl) (fun t15 => ?_)
              exact pw_Li (L2 := [(0, .ref (base + 121)), (1, .int (FI 165 ((FI 121 90) - ((1 : Int32))).toInt.toNat)), (2, .long (FL 173 ((FI 121 101) - ((1 : Int32))).toInt.toNat)), (4, .int (fX12_isThere (FL 173 ((FI 121 101) - ((1 : Int32))).toInt.toNat) (((FI 165 ((FI 121 90) - ((1 : Int32))).toInt.toNat) - ((256 : Int32))).toInt64) SH (h_up FI 121 90 ((FI 121 90) - ((1 : Int32)))) FL FR))]) [3, 2, 1, 0] (rX12_meansFinished_165 hkb  (FI 165 ((FI 121 90) - ((1 : Int32))).toInt.toNat) (FL 173 ((FI 121 101) - ((1 : Int32))).toInt.toNat) (fX12_isThere (FL 173 ((FI 121 101) - ((1 : Int32))).toInt.toNat) (((FI 165 ((FI 121 90) - ((1 : Int32))).toInt.toNat) - ((256 : Int32))).toInt64) SH (h_up FI 121 90 ((FI 121 90) - ((1 : Int32)))) FL FR) n sl SH (h_up (h_up FI 121 90 ((FI 121 90) - ((1 : Int32)))) 121 93 ((5 : Int32))) FL FR hok  hK0) ⟨rfl, rfl, rfl, rfl, trivial⟩
            · skip
              exact pw_Li (L2 := [(0, .ref (base + 121)), (1, .int (FI 165 ((FI 121 90) - ((1 : Int32))).toInt.toNat)), (2, .long (FL 173 ((FI 121 101) - ((1 : Int32))).toInt.toNat)), (4, .int (fX12_isThere (FL 173 ((FI 121 101) - ((1 : Int32))).toInt.toNat) (((FI 165 ((FI 121 90) - ((1 : Int32))).toInt.toNat) - ((256 : Int32))).toInt64) SH (h_up FI 121 90 ((FI 121 90) - ((1 : Int32)))) FL FR))]) [3, 2, 1, 0] (rX12_meansFinished_165 hkb  (FI 165 ((FI 121 90) - ((1 : Int32))).toInt.toNat) (FL 173 ((FI 121 101) - ((1 : Int32))).toInt.toNat) (fX12_isThere (FL 173 ((FI 121 101) - ((1 : Int32))).toInt.toNat) (((FI 165 ((FI 121 90) - ((1 : Int32))).toInt.toNat) - ((256 : Int32))).toInt64) SH (h_up FI 121 90 ((FI 121 90) - ((1 : Int32)))) FL FR) n sl SH (h_up FI 121 90 ((FI 121 90) - ((1 : Int32)))) FL FR hok  hK0) ⟨rfl, rfl, rfl, rfl, trivial⟩
  · skip
    exact pw_vret (aX12_meansFinished 109 rfl) hok
theorem gX12_meansFinished_0 {sk : xK} {base d : Nat}  (hkb : x_kb sk base)  (N : Nat) :  ∀  (l1i : Int32) (l2l : Int64) (l4i : Int32) (n sl : Nat) (SH : Nat → Nat × Nat) (FI : Nat → Nat → Int32) (FL : Nat → Nat → Int64) (FR : Nat → Nat → Option Nat), pk n SH FR → pw pj_V sk base N d none 263 0 [(0, .ref (base + 121)), (1, .int (l1i)), (2, .long (l2l)), (4, .int (l4i))] [] (n, sl, SH, FI, FL, FR) (GX12_meansFinished_0   (N + 1)  n sl SH FI FL FR) := by
  induction N with
  | zero => intros; exact pw_0
  | succ N ih => intro    l1i l2l l4i n sl SH FI FL FR hok; exact bX12_meansFinished_0 hkb   l1i l2l l4i n sl SH FI FL FR hok  (ih  )
theorem rX12_meansFinished_0 {sk : xK} {base N d : Nat}  (hkb : x_kb sk base)   (l1i : Int32) (l2l : Int64) (l4i : Int32) (n sl : Nat) (SH : Nat → Nat × Nat) (FI : Nat → Nat → Int32) (FL : Nat → Nat → Int64) (FR : Nat → Nat → Option Nat) (hok : pk n SH FR)   : pw pj_V sk base N d none 263 0 [(0, .ref (base + 121)), (1, .int (l1i)), (2, .long (l2l)), (4, .int (l4i))] [] (n, sl, SH, FI, FL, FR) (RX12_meansFinished_0    n sl SH FI FL FR) := pw_cons (gX12_meansFinished_0 hkb  N    l1i l2l l4i n sl SH FI FL FR hok) (fun _ _ h => ⟨_, h⟩)
set_option maxHeartbeats 4000000 in
set_option maxRecDepth 100000 in
theorem rX12_meansFinished {sk : xK} {base N d : Nat} (hkb : x_kb sk base)  (n sl : Nat) (SH : Nat → Nat × Nat) (FI : Nat → Nat → Int32) (FL : Nat → Nat → Int64) (FR : Nat → Nat → Option Nat) (hok : pk n SH FR)  : pw pj_V sk base N d none 263 0 [(0, .ref (base + 121))] [] (n, sl, SH, FI, FL, FR) (RX12_meansFinished  n sl SH FI FL FR) := by
  unfold RX12_meansFinished
  exact pw_Li (L2 := [(0, .ref (base + 121)), (1, .int 0), (2, .long 0), (4, .int 0)]) [0] (rX12_meansFinished_0 hkb  0 0 0 n sl SH FI FL FR hok  ) ⟨rfl, trivial⟩
set_option maxHeartbeats 4000000 in
set_option maxRecDepth 100000 in
theorem rX12_meansReduced_131 {sk : xK} {base N d : Nat} {K0 : Nat → Nat → (Nat → Nat × Nat) → (Nat → Nat → Int32) → (Nat → Nat → Int64) → (Nat → Nat → Option Nat) → Unit → hS → Prop} (hkb : x_kb sk base) (a1 : Int32) (s0l : Int64) (s1i : Int32) (l2i : Int32) (l3l : Int64) (l5l : Int64) (l7i : Int32) (n sl : Nat) (SH : Nat → Nat × Nat) (FI : Nat → Nat → Int32) (FL : Nat → Nat → Int64) (FR : Nat → Nat → Option Nat) (hok : pk n SH FR)  (hK0 : ∀ (l2i : Int32) (l3l : Int64) (l5l : Int64) (l7i : Int32) (n sl : Nat) (SH : Nat → Nat × Nat) (FI : Nat → Nat → Int32) (FL : Nat → Nat → Int64) (FR : Nat → Nat → Option Nat), pk n SH FR → pw pj_V sk base N d none 264 0 [(0, .ref (base + 121)), (1, .int (a1)), (2, .int (l2i)), (3, .long (l3l)), (5, .long (l5l)), (7, .int (l7i))] [] (n, sl, SH, FI, FL, FR) (K0  n sl SH FI FL FR)) : pw pj_V sk base N d none 264 131 [(0, .ref (base + 121)), (1, .int (a1)), (2, .int (l2i)), (3, .long (l3l)), (5, .long (l5l)), (7, .int (l7i))] [.long (s0l), .int (s1i), .ref (base + 173)] (n, sl, SH, FI, FL, FR) (RX12_meansReduced_131 K0 a1 s0l s1i n sl SH FI FL FR) := by
  unfold RX12_meansReduced_131
  refine pw_lastr (c := 173) (ix := (s1i).toInt.toNat) (aX12_meansReduced 73 rfl) rfl (fun _ => ?_)
  refine pw_goto (tgt := 0) (aX12_meansReduced 74 rfl) (by decide) ?_
  exact pw_Li (L2 := [(0, .ref (base + 121)), (1, .int (a1)), (2, .int (l2i)), (3, .long (l3l)), (5, .long (l5l)), (7, .int (l7i))]) [0, 1, 2, 3, 4, 5] (hK0 (l2i) (l3l) (l5l) (l7i) n sl SH FI (h_up FL 173 (s1i).toInt.toNat (s0l)) FR hok) ⟨rfl, rfl, rfl, rfl, rfl, rfl, trivial⟩
set_option maxHeartbeats 4000000 in
set_option maxRecDepth 100000 in
theorem rX12_meansReduced_104 {sk : xK} {base N d : Nat} {K0 : Nat → Nat → (Nat → Nat × Nat) → (Nat → Nat → Int32) → (Nat → Nat → Int64) → (Nat → Nat → Option Nat) → Unit → hS → Prop} (hkb : x_kb sk base) (a1 : Int32) (l2i : Int32) (l3l : Int64) (l5l : Int64) (l7i : Int32)  (n sl : Nat) (SH : Nat → Nat × Nat) (FI : Nat → Nat → Int32) (FL : Nat → Nat → Int64) (FR : Nat → Nat → Option Nat) (hok : pk n SH FR)  (hK0 : ∀ (l2i : Int32) (l3l : Int64) (l5l : Int64) (l7i : Int32) (n sl : Nat) (SH : Nat → Nat × Nat) (FI : Nat → Nat → Int32) (FL : Nat → Nat → Int64) (FR : Nat → Nat → Option Nat), pk n SH FR → pw pj_V sk base N d none 264 0 [(0, .ref (base + 121)), (1, .int (a1)), (2, .int (l2i)), (3, .long (l3l)), (5, .long (l5l)), (7, .int (l7i))] [] (n, sl, SH, FI, FL, FR) (K0  n sl SH FI FL FR)) : pw pj_V sk base N d none 264 104 [(0, .ref (base + 121)), (1, .int (a1)), (2, .int (l2i)), (3, .long (l3l)), (5, .long (l5l)), (7, .int (l7i))] [] (n, sl, SH, FI, FL, FR) (RX12_meansReduced_104 K0 a1 l2i l3l l5l l7i n sl SH FI FL FR) := by
  unfold RX12_meansReduced_104
  refine pw_aloadn (aX12_meansReduced 58 rfl) rfl ?_
  refine pw_getr (v := .ref (base + 173)) (aX12_meansReduced 59 rfl) uf_RX12_178 un_RX12_178 (congrArg (fun r => va_rf (h_rf base r)) (q121_100 (hok).2.1)) ?_
  refine pw_aloadn (aX12_meansReduced 60 rfl) rfl ?_
  refine pw_getr (v := .int (FI 121 101)) (aX12_meansReduced 61 rfl) uf_RX12_683 un_RX12_683 rfl ?_
  refine pw_iconst (v := (1 : Int32)) (aX12_meansReduced 62 rfl) rfl ?_
  refine pw_isub (aX12_meansReduced 63 rfl) ?_
  refine pw_iload (aX12_meansReduced 64 rfl) rfl ?_
  refine pw_ifeq (tgt := 123) (aX12_meansReduced 65 rfl) (by decide) (fun b0 => ?_) (fun b0 => ?_)
  · skip
    refine pw_aloadn (aX12_meansReduced 68 rfl) rfl ?_
    refine pw_iloadn (aX12_meansReduced 69 rfl) rfl ?_
    refine pw_lload (aX12_meansReduced 70 rfl) rfl ?_
    refine pw_lloadn (aX12_meansReduced 71 rfl) rfl ?_
    refine pw_cf (pw_callV (Bs := [.int (l2i), .long (l5l), .long (l3l)]) (rest := [.int ((FI 121 101) - ((1 : Int32))), .ref (base + 173)]) (aX12_meansReduced 72 rfl) um_RX12_346 ujX12_worked wc_RX12_346.2.2.2.2 (by decide) (by decide) rfl rfl (fun d => rX12_worked hkb (l2i) (l5l) (l3l) n sl SH FI FL FR hok) (fun v1 n1 sl1 SH1 FI1 FL1 FR1 _ hC => ?_))
    obtain ⟨rfl, hC⟩ := hC; cases hC
    show pw _ _ _ _ _ _ _ 131 _ [.long (fX12_worked (l2i) (l5l) (l3l) SH FI FL FR), .int ((FI 121 101) - ((1 : Int32))), .ref (base + 173)] _ _
    exact pw_Li (L2 := [(0, .ref (base + 121)), (1, .int (a1)), (2, .int (l2i)), (3, .long (l3l)), (5, .long (l5l)), (7, .int (l7i))]) [0, 1, 2, 3, 4, 5] (rX12_meansReduced_131 hkb a1 (fX12_worked (l2i) (l5l) (l3l) SH FI FL FR) ((FI 121 101) - ((1 : Int32))) (l2i) (l3l) (l5l) (l7i) n sl SH FI FL FR hok  hK0) ⟨rfl, rfl, rfl, rfl, rfl, rfl, trivial⟩
  · skip
    refine pw_lconst (v := (0 : Int64)) (aX12_meansReduced 66 rfl) rfl ?_
    refine pw_goto (tgt := 131) (aX12_meansReduced 67 rfl) (by decide) ?_
    exact pw_Li (L2 := [(0, .ref (base + 121)), (1, .int (a1)), (2, .int (l2i)), (3, .long (l3l)), (5, .long (l5l)), (7, .int (l7i))]) [0, 1, 2, 3, 4, 5] (rX12_meansReduced_131 hkb a1 ((0 : Int64)) ((FI 121 101) - ((1 : Int32))) (l2i) (l3l) (l5l) (l7i) n sl SH FI FL FR hok  hK0) ⟨rfl, rfl, rfl, rfl, rfl, rfl, trivial⟩
set_option maxHeartbeats 4000000 in
set_option maxRecDepth 100000 in
theorem rX12_meansReduced_84 {sk : xK} {base N d : Nat} {K0 : Nat → Nat → (Nat → Nat × Nat) → (Nat → Nat → Int32) → (Nat → Nat → Int64) → (Nat → Nat → Option Nat) → Unit → hS → Prop} (hkb : x_kb sk base) (a1 : Int32) (l2i : Int32) (l3l : Int64) (l5l : Int64) (s0i : Int32) (l7i : Int32) (n sl : Nat) (SH : Nat → Nat × Nat) (FI : Nat → Nat → Int32) (FL : Nat → Nat → Int64) (FR : Nat → Nat → Option Nat) (hok : pk n SH FR)  (hK0 : ∀ (l2i : Int32) (l3l : Int64) (l5l : Int64) (l7i : Int32) (n sl : Nat) (SH : Nat → Nat × Nat) (FI : Nat → Nat → Int32) (FL : Nat → Nat → Int64) (FR : Nat → Nat → Option Nat), pk n SH FR → pw pj_V sk base N d none 264 0 [(0, .ref (base + 121)), (1, .int (a1)), (2, .int (l2i)), (3, .long (l3l)), (5, .long (l5l)), (7, .int (l7i))] [] (n, sl, SH, FI, FL, FR) (K0  n sl SH FI FL FR)) : pw pj_V sk base N d none 264 84 [(0, .ref (base + 121)), (1, .int (a1)), (2, .int (l2i)), (3, .long (l3l)), (5, .long (l5l)), (7, .int (l7i))] [.int (s0i)] (n, sl, SH, FI, FL, FR) (RX12_meansReduced_84 K0 a1 l2i l3l l5l s0i n sl SH FI FL FR) := by
  unfold RX12_meansReduced_84
  refine pw_istore (L2 := [(7, .int (s0i)), (0, .ref (base + 121)), (1, .int (a1)), (2, .int (l2i)), (3, .long (l3l)), (5, .long (l5l))]) (aX12_meansReduced 49 rfl) rfl ?_
  refine pw_iload (aX12_meansReduced 50 rfl) rfl ?_
  refine pw_ifeq (tgt := 104) (aX12_meansReduced 51 rfl) (by decide) (fun b0 => ?_) (fun b0 => ?_)
  · skip
    exact pw_Li (L2 := [(0, .ref (base + 121)), (1, .int (a1)), (2, .int (l2i)), (3, .long (l3l)), (5, .long (l5l)), (7, .int (s0i))]) [5, 0, 1, 2, 3, 4] (rX12_meansReduced_104 hkb a1 (l2i) (l3l) (l5l) (s0i) n sl SH FI FL FR hok  hK0) ⟨rfl, rfl, rfl, rfl, rfl, rfl, trivial⟩
  · skip
    refine pw_aloadn (aX12_meansReduced 52 rfl) rfl ?_
    refine pw_cf (pw_callV (Bs := []) (rest := []) (aX12_meansReduced 53 rfl) um_RX12_704 ujX12_does wc_RX12_704.2.2.2.2 (by decide) (by decide) rfl rfl (fun d => rX12_does hkb  n sl SH FI FL FR hok) (fun v1 n1 sl1 SH1 FI1 FL1 FR1 _ hC => ?_))
    obtain ⟨rfl, hC⟩ := hC; cases hC
    show pw _ _ _ _ _ _ _ 95 _ [.int (fX12_does  SH FI FL FR)] _ _
    refine pw_ifeq (tgt := 104) (aX12_meansReduced 54 rfl) (by decide) (fun b2 => ?_) (fun b2 => ?_)
    · skip
      exact pw_Li (L2 := [(0, .ref (base + 121)), (1, .int (a1)), (2, .int (l2i)), (3, .long (l3l)), (5, .long (l5l)), (7, .int (s0i))]) [5, 0, 1, 2, 3, 4] (rX12_meansReduced_104 hkb a1 (l2i) (l3l) (l5l) (s0i) n sl SH FI FL FR hok  hK0) ⟨rfl, rfl, rfl, rfl, rfl, rfl, trivial⟩
    · skip
      refine pw_aloadn (aX12_meansReduced 55 rfl) rfl ?_
      refine pw_bipush (v := (6 : Int32)) (aX12_meansReduced 56 rfl) rfl ?_
      refine pw_putri (aX12_meansReduced 57 rfl) uf_RX12_653 (fun _ _ _ => rfl) (fun t4 => ?_)
      exact pw_Li (L2 := [(0, .ref (base + 121)), (1, .int (a1)), (2, .int (l2i)), (3, .long (l3l)), (5, .long (l5l)), (7, .int (s0i))]) [5, 0, 1, 2, 3, 4] (rX12_meansReduced_104 hkb a1 (l2i) (l3l) (l5l) (s0i) n sl SH (h_up FI 121 93 ((6 : Int32))) FL FR hok  hK0) ⟨rfl, rfl, rfl, rfl, rfl, rfl, trivial⟩
set_option maxHeartbeats 4000000 in
set_option maxRecDepth 100000 in
theorem rX12_meansReduced_83 {sk : xK} {base N d : Nat} {K0 : Nat → Nat → (Nat → Nat × Nat) → (Nat → Nat → Int32) → (Nat → Nat → Int64) → (Nat → Nat → Option Nat) → Unit → hS → Prop} (hkb : x_kb sk base) (a1 : Int32) (l2i : Int32) (l3l : Int64) (l5l : Int64) (l7i : Int32) (n sl : Nat) (SH : Nat → Nat × Nat) (FI : Nat → Nat → Int32) (FL : Nat → Nat → Int64) (FR : Nat → Nat → Option Nat) (hok : pk n SH FR)  (hK0 : ∀ (l2i : Int32) (l3l : Int64) (l5l : Int64) (l7i : Int32) (n sl : Nat) (SH : Nat → Nat × Nat) (FI : Nat → Nat → Int32) (FL : Nat → Nat → Int64) (FR : Nat → Nat → Option Nat), pk n SH FR → pw pj_V sk base N d none 264 0 [(0, .ref (base + 121)), (1, .int (a1)), (2, .int (l2i)), (3, .long (l3l)), (5, .long (l5l)), (7, .int (l7i))] [] (n, sl, SH, FI, FL, FR) (K0  n sl SH FI FL FR)) : pw pj_V sk base N d none 264 83 [(0, .ref (base + 121)), (1, .int (a1)), (2, .int (l2i)), (3, .long (l3l)), (5, .long (l5l)), (7, .int (l7i))] [] (n, sl, SH, FI, FL, FR) (RX12_meansReduced_83 K0 a1 l2i l3l l5l n sl SH FI FL FR) := by
  unfold RX12_meansReduced_83
  refine pw_iconst (v := (0 : Int32)) (aX12_meansReduced 48 rfl) rfl ?_
  exact pw_Li (L2 := [(0, .ref (base + 121)), (1, .int (a1)), (2, .int (l2i)), (3, .long (l3l)), (5, .long (l5l)), (7, .int (l7i))]) [0, 1, 2, 3, 4, 5] (rX12_meansReduced_84 hkb a1 (l2i) (l3l) (l5l) ((0 : Int32)) (l7i) n sl SH FI FL FR hok  hK0) ⟨rfl, rfl, rfl, rfl, rfl, rfl, trivial⟩
set_option maxHeartbeats 4000000 in
set_option maxRecDepth 100000 in
theorem rX12_meansReduced_73 {sk : xK} {base N d : Nat} {K0 : Nat → Nat → (Nat → Nat × Nat) → (Nat → Nat → Int32) → (Nat → Nat → Int64) → (Nat → Nat → Option Nat) → Unit → hS → Prop} (hkb : x_kb sk base) (a1 : Int32) (l2i : Int32) (l3l : Int64) (l5l : Int64) (l7i : Int32) (n sl : Nat) (SH : Nat → Nat × Nat) (FI : Nat → Nat → Int32) (FL : Nat → Nat → Int64) (FR : Nat → Nat → Option Nat) (hok : pk n SH FR)  (hK0 : ∀ (l2i : Int32) (l3l : Int64) (l5l : Int64) (l7i : Int32) (n sl : Nat) (SH : Nat → Nat × Nat) (FI : Nat → Nat → Int32) (FL : Nat → Nat → Int64) (FR : Nat → Nat → Option Nat), pk n SH FR → pw pj_V sk base N d none 264 0 [(0, .ref (base + 121)), (1, .int (a1)), (2, .int (l2i)), (3, .long (l3l)), (5, .long (l5l)), (7, .int (l7i))] [] (n, sl, SH, FI, FL, FR) (K0  n sl SH FI FL FR)) : pw pj_V sk base N d none 264 73 [(0, .ref (base + 121)), (1, .int (a1)), (2, .int (l2i)), (3, .long (l3l)), (5, .long (l5l)), (7, .int (l7i))] [] (n, sl, SH, FI, FL, FR) (RX12_meansReduced_73 K0 a1 l2i l3l l5l n sl SH FI FL FR) := by
  unfold RX12_meansReduced_73
  refine pw_lloadn (aX12_meansReduced 42 rfl) rfl ?_
  refine pw_lconst (v := (0 : Int64)) (aX12_meansReduced 43 rfl) rfl ?_
  refine pw_lcne (tgt := 83) (aX12_meansReduced 44 rfl) (aX12_meansReduced 45 rfl) (by decide) (fun b0 => ?_) (fun b0 => ?_)
  · skip
    refine pw_iconst (v := (1 : Int32)) (aX12_meansReduced 46 rfl) rfl ?_
    refine pw_goto (tgt := 84) (aX12_meansReduced 47 rfl) (by decide) ?_
    exact pw_Li (L2 := [(0, .ref (base + 121)), (1, .int (a1)), (2, .int (l2i)), (3, .long (l3l)), (5, .long (l5l)), (7, .int (l7i))]) [0, 1, 2, 3, 4, 5] (rX12_meansReduced_84 hkb a1 (l2i) (l3l) (l5l) ((1 : Int32)) (l7i) n sl SH FI FL FR hok  hK0) ⟨rfl, rfl, rfl, rfl, rfl, rfl, trivial⟩
  · skip
    exact pw_Li (L2 := [(0, .ref (base + 121)), (1, .int (a1)), (2, .int (l2i)), (3, .long (l3l)), (5, .long (l5l)), (7, .int (l7i))]) [0, 1, 2, 3, 4, 5] (rX12_meansReduced_83 hkb a1 (l2i) (l3l) (l5l) (l7i) n sl SH FI FL FR hok  hK0) ⟨rfl, rfl, rfl, rfl, rfl, rfl, trivial⟩
set_option maxHeartbeats 4000000 in
set_option maxRecDepth 100000 in
theorem bX12_meansReduced_0 {sk : xK} {base N d : Nat} {K0 : Nat → Nat → (Nat → Nat × Nat) → (Nat → Nat → Int32) → (Nat → Nat → Int64) → (Nat → Nat → Option Nat) → Unit → hS → Prop} (hkb : x_kb sk base) (a1 : Int32)  (l2i : Int32) (l3l : Int64) (l5l : Int64) (l7i : Int32) (n sl : Nat) (SH : Nat → Nat × Nat) (FI : Nat → Nat → Int32) (FL : Nat → Nat → Int64) (FR : Nat → Nat → Option Nat) (hok : pk n SH FR)  (hK0 : ∀ (l2i : Int32) (l3l : Int64) (l5l : Int64) (l7i : Int32) (n sl : Nat) (SH : Nat → Nat × Nat) (FI : Nat → Nat → Int32) (FL : Nat → Nat → Int64) (FR : Nat → Nat → Option Nat), pk n SH FR → pw pj_V sk base N d none 264 0 [(0, .ref (base + 121)), (1, .int (a1)), (2, .int (l2i)), (3, .long (l3l)), (5, .long (l5l)), (7, .int (l7i))] [] (n, sl, SH, FI, FL, FR) (K0  n sl SH FI FL FR)) : pw pj_V sk base (N + 1) d none 264 0 [(0, .ref (base + 121)), (1, .int (a1)), (2, .int (l2i)), (3, .long (l3l)), (5, .long (l5l)), (7, .int (l7i))] [] (n, sl, SH, FI, FL, FR) (BX12_meansReduced_0 K0 a1  n sl SH FI FL FR) := by
  unfold BX12_meansReduced_0
  refine pd_aloadn (aX12_meansReduced 0 rfl) rfl ?_
  refine pw_cf (pw_callV (Bs := []) (rest := []) (aX12_meansReduced 1 rfl) um_RX12_559 ujX12_tops wc_RX12_559.2.2.2.2 (by decide) (by decide) rfl rfl (fun d => rX12_tops hkb  n sl SH FI FL FR hok) (fun v0 n0 sl0 SH0 FI0 FL0 FR0 _ hC => ?_))
  obtain ⟨rfl, hC⟩ := hC; cases hC
  show pw _ _ _ _ _ _ _ 4 _ [.int (fX12_tops  SH FI FL FR)] _ _
  refine pw_iloadn (aX12_meansReduced 2 rfl) rfl ?_
  refine pw_iclt (tgt := 135) (aX12_meansReduced 3 rfl) (by decide) (fun b1 => ?_) (fun b1 => ?_)
  · skip
    exact pw_vret (aX12_meansReduced 75 rfl) hok
  · skip
    refine pw_aloadn (aX12_meansReduced 4 rfl) rfl ?_
    refine pw_aloadn (aX12_meansReduced 5 rfl) rfl ?_
    refine pw_getr (v := .int (FI 121 90)) (aX12_meansReduced 6 rfl) uf_RX12_556 un_RX12_556 rfl ?_
    refine pw_iconst (v := (1 : Int32)) (aX12_meansReduced 7 rfl) rfl ?_
    refine pw_isub (aX12_meansReduced 8 rfl) ?_
    refine pw_putri (aX12_meansReduced 9 rfl) uf_RX12_556 (fun _ _ _ => rfl) (fun t3 => ?_)
    refine pw_aloadn (aX12_meansReduced 10 rfl) rfl ?_
    refine pw_getr (v := .ref (base + 165)) (aX12_meansReduced 11 rfl) uf_RX12_154 un_RX12_154 (congrArg (fun r => va_rf (h_rf base r)) (q121_86 (hok).2.1)) ?_
    refine pw_aloadn (aX12_meansReduced 12 rfl) rfl ?_
    refine pw_getr (v := .int ((FI 121 90) - ((1 : Int32)))) (aX12_meansReduced 13 rfl) uf_RX12_556 un_RX12_556 rfl ?_
    refine pw_ialdr (c := 165) (ix := ((FI 121 90) - ((1 : Int32))).toInt.toNat) (aX12_meansReduced 14 rfl) rfl (fun _ => ?_)
    refine pw_istoren (L2 := [(2, .int (FI 165 ((FI 121 90) - ((1 : Int32))).toInt.toNat)), (0, .ref (base + 121)), (1, .int (a1)), (3, .long (l3l)), (5, .long (l5l)), (7, .int (l7i))]) (aX12_meansReduced 15 rfl) rfl ?_
    refine pw_aloadn (aX12_meansReduced 16 rfl) rfl ?_
    refine pw_aloadn (aX12_meansReduced 17 rfl) rfl ?_
    refine pw_getr (v := .int (FI 121 101)) (aX12_meansReduced 18 rfl) uf_RX12_683 un_RX12_683 rfl ?_
    refine pw_iconst (v := (1 : Int32)) (aX12_meansReduced 19 rfl) rfl ?_
    refine pw_isub (aX12_meansReduced 20 rfl) ?_
    refine pw_putri (aX12_meansReduced 21 rfl) uf_RX12_683 (fun _ _ _ => rfl) (fun t4 => ?_)
    refine pw_aloadn (aX12_meansReduced 22 rfl) rfl ?_
    refine pw_getr (v := .ref (base + 173)) (aX12_meansReduced 23 rfl) uf_RX12_178 un_RX12_178 (congrArg (fun r => va_rf (h_rf base r)) (q121_100 (hok).2.1)) ?_
    refine pw_aloadn (aX12_meansReduced 24 rfl) rfl ?_
    refine pw_getr (v := .int ((FI 121 101) - ((1 : Int32)))) (aX12_meansReduced 25 rfl) uf_RX12_683 un_RX12_683 rfl ?_
    refine pw_laldr (c := 173) (ix := ((FI 121 101) - ((1 : Int32))).toInt.toNat) (aX12_meansReduced 26 rfl) rfl (fun _ => ?_)
    refine pw_lstoren (L2 := [(3, .long (FL 173 ((FI 121 101) - ((1 : Int32))).toInt.toNat)), (2, .int (FI 165 ((FI 121 90) - ((1 : Int32))).toInt.toNat)), (0, .ref (base + 121)), (1, .int (a1)), (5, .long (l5l)), (7, .int (l7i))]) (aX12_meansReduced 27 rfl) rfl ?_
    refine pw_aloadn (aX12_meansReduced 28 rfl) rfl ?_
    refine pw_getr (v := .ref (base + 173)) (aX12_meansReduced 29 rfl) uf_RX12_178 un_RX12_178 (congrArg (fun r => va_rf (h_rf base r)) (q121_100 (hok).2.1)) ?_
    refine pw_aloadn (aX12_meansReduced 30 rfl) rfl ?_
    refine pw_getr (v := .int ((FI 121 101) - ((1 : Int32)))) (aX12_meansReduced 31 rfl) uf_RX12_683 un_RX12_683 rfl ?_
    refine pw_iconst (v := (1 : Int32)) (aX12_meansReduced 32 rfl) rfl ?_
    refine pw_isub (aX12_meansReduced 33 rfl) ?_
    refine pw_laldr (c := 173) (ix := (((FI 121 101) - ((1 : Int32))) - ((1 : Int32))).toInt.toNat) (aX12_meansReduced 34 rfl) rfl (fun _ => ?_)
    refine pw_lstore (L2 := [(5, .long (FL 173 (((FI 121 101) - ((1 : Int32))) - ((1 : Int32))).toInt.toNat)), (3, .long (FL 173 ((FI 121 101) - ((1 : Int32))).toInt.toNat)), (2, .int (FI 165 ((FI 121 90) - ((1 : Int32))).toInt.toNat)), (0, .ref (base + 121)), (1, .int (a1)), (7, .int (l7i))]) (aX12_meansReduced 35 rfl) rfl ?_
    refine pw_iloadn (aX12_meansReduced 36 rfl) rfl ?_
    refine pw_bipush (v := (27 : Int32)) (aX12_meansReduced 37 rfl) rfl ?_
    refine pw_iceq (tgt := 73) (aX12_meansReduced 38 rfl) (by decide) (fun b4 => ?_) (fun b4 => ?_)
    · skip
      exact pw_Li (L2 := [(0, .ref (base + 121)), (1, .int (a1)), (2, .int (FI 165 ((FI 121 90) - ((1 : Int32))).toInt.toNat)), (3, .long (FL 173 ((FI 121 101) - ((1 : Int32))).toInt.toNat)), (5, .long (FL 173 (((FI 121 101) - ((1 : Int32))) - ((1 : Int32))).toInt.toNat)), (7, .int (l7i))]) [4, 3, 2, 0, 1, 5] (rX12_meansReduced_73 hkb a1 (FI 165 ((FI 121 90) - ((1 : Int32))).toInt.toNat) (FL 173 ((FI 121 101) - ((1 : Int32))).toInt.toNat) (FL 173 (((FI 121 101) - ((1 : Int32))) - ((1 : Int32))).toInt.toNat) (l7i) n sl SH (h_up (h_up FI 121 90 ((FI 121 90) - ((1 : Int32)))) 121 101 ((FI 121 101) - ((1 : Int32)))) FL FR hok  hK0) ⟨rfl, rfl, rfl, rfl, rfl, rfl, trivial⟩
    · skip
      refine pw_iloadn (aX12_meansReduced 39 rfl) rfl ?_
      refine pw_bipush (v := (29 : Int32)) (aX12_meansReduced 40 rfl) rfl ?_
      refine pw_icne (tgt := 83) (aX12_meansReduced 41 rfl) (by decide) (fun b5 => ?_) (fun b5 => ?_)
      · skip
        exact pw_Li (L2 := [(0, .ref (base + 121)), (1, .int (a1)), (2, .int (FI 165 ((FI 121 90) - ((1 : Int32))).toInt.toNat)), (3, .long (FL 173 ((FI 121 101) - ((1 : Int32))).toInt.toNat)), (5, .long (FL 173 (((FI 121 101) - ((1 : Int32))) - ((1 : Int32))).toInt.toNat)), (7, .int (l7i))]) [4, 3, 2, 0, 1, 5] (rX12_meansReduced_73 hkb a1 (FI 165 ((FI 121 90) - ((1 : Int32))).toInt.toNat) (FL 173 ((FI 121 101) - ((1 : Int32))).toInt.toNat) (FL 173 (((FI 121 101) - ((1 : Int32))) - ((1 : Int32))).toInt.toNat) (l7i) n sl SH (h_up (h_up FI 121 90 ((FI 121 90) - ((1 : Int32)))) 121 101 ((FI 121 101) - ((1 : Int32)))) FL FR hok  hK0) ⟨rfl, rfl, rfl, rfl, rfl, rfl, trivial⟩
      · skip
        exact pw_Li (L2 := [(0, .ref (base + 121)), (1, .int (a1)), (2, .int (FI 165 ((FI 121 90) - ((1 : Int32))).toInt.toNat)), (3, .long (FL 173 ((FI 121 101) - ((1 : Int32))).toInt.toNat)), (5, .long (FL 173 (((FI 121 101) - ((1 : Int32))) - ((1 : Int32))).toInt.toNat)), (7, .int (l7i))]) [4, 3, 2, 0, 1, 5] (rX12_meansReduced_83 hkb a1 (FI 165 ((FI 121 90) - ((1 : Int32))).toInt.toNat) (FL 173 ((FI 121 101) - ((1 : Int32))).toInt.toNat) (FL 173 (((FI 121 101) - ((1 : Int32))) - ((1 : Int32))).toInt.toNat) (l7i) n sl SH (h_up (h_up FI 121 90 ((FI 121 90) - ((1 : Int32)))) 121 101 ((FI 121 101) - ((1 : Int32)))) FL FR hok  hK0) ⟨rfl, rfl, rfl, rfl, rfl, rfl, trivial⟩
theorem gX12_meansReduced_0 {sk : xK} {base d : Nat}  (hkb : x_kb sk base) (a1 : Int32) (N : Nat) :  ∀  (l2i : Int32) (l3l : Int64) (l5l : Int64) (l7i : Int32) (n sl : Nat) (SH : Nat → Nat × Nat) (FI : Nat → Nat → Int32) (FL : Nat → Nat → Int64) (FR : Nat → Nat → Option Nat), pk n SH FR → pw pj_V sk base N d none 264 0 [(0, .ref (base + 121)), (1, .int (a1)), (2, .int (l2i)), (3, .long (l3l)), (5, .long (l5l)), (7, .int (l7i))] [] (n, sl, SH, FI, FL, FR) (GX12_meansReduced_0  a1 (N + 1)  n sl SH FI FL FR) := by
  induction N with
  | zero => intros; exact pw_0
  | succ N ih => intro    l2i l3l l5l l7i n sl SH FI FL FR hok; exact bX12_meansReduced_0 hkb a1  l2i l3l l5l l7i n sl SH FI FL FR hok  (ih  )
theorem rX12_meansReduced_0 {sk : xK} {base N d : Nat}  (hkb : x_kb sk base) (a1 : Int32)  (l2i : Int32) (l3l : Int64) (l5l : Int64) (l7i : Int32) (n sl : Nat) (SH : Nat → Nat × Nat) (FI : Nat → Nat → Int32) (FL : Nat → Nat → Int64) (FR : Nat → Nat → Option Nat) (hok : pk n SH FR)   : pw pj_V sk base N d none 264 0 [(0, .ref (base + 121)), (1, .int (a1)), (2, .int (l2i)), (3, .long (l3l)), (5, .long (l5l)), (7, .int (l7i))] [] (n, sl, SH, FI, FL, FR) (RX12_meansReduced_0  a1  n sl SH FI FL FR) := pw_cons (gX12_meansReduced_0 hkb a1 N    l2i l3l l5l l7i n sl SH FI FL FR hok) (fun _ _ h => ⟨_, h⟩)
set_option maxHeartbeats 4000000 in
set_option maxRecDepth 100000 in
theorem rX12_meansReduced {sk : xK} {base N d : Nat} (hkb : x_kb sk base) (a1 : Int32) (n sl : Nat) (SH : Nat → Nat × Nat) (FI : Nat → Nat → Int32) (FL : Nat → Nat → Int64) (FR : Nat → Nat → Option Nat) (hok : pk n SH FR)  : pw pj_V sk base N d none 264 0 [(0, .ref (base + 121)), (1, .int (a1))] [] (n, sl, SH, FI, FL, FR) (RX12_meansReduced a1 n sl SH FI FL FR) := by
  unfold RX12_meansReduced
  exact pw_Li (L2 := [(0, .ref (base + 121)), (1, .int (a1)), (2, .int 0), (3, .long 0), (5, .long 0), (7, .int 0)]) [0, 1] (rX12_meansReduced_0 hkb a1 0 0 0 0 n sl SH FI FL FR hok  ) ⟨rfl, rfl, trivial⟩
set_option maxHeartbeats 4000000 in
set_option maxRecDepth 100000 in
theorem rX12_meansReducedAll_66 {sk : xK} {base N d : Nat} {K5 : Nat → Nat → (Nat → Nat × Nat) → (Nat → Nat → Int32) → (Nat → Nat → Int64) → (Nat → Nat → Option Nat) → Unit → hS → Prop} (hkb : x_kb sk base)    (n sl : Nat) (SH : Nat → Nat × Nat) (FI : Nat → Nat → Int32) (FL : Nat → Nat → Int64) (FR : Nat → Nat → Option Nat) (hok : pk n SH FR)  (hK5 : ∀  (n sl : Nat) (SH : Nat → Nat × Nat) (FI : Nat → Nat → Int32) (FL : Nat → Nat → Int64) (FR : Nat → Nat → Option Nat), pk n SH FR → pw pj_V sk base N d none 265 5 [(0, .ref (base + 121))] [] (n, sl, SH, FI, FL, FR) (K5  n sl SH FI FL FR)) : pw pj_V sk base N d none 265 66 [(0, .ref (base + 121))] [] (n, sl, SH, FI, FL, FR) (RX12_meansReducedAll_66 K5   n sl SH FI FL FR) := by
  unfold RX12_meansReducedAll_66
  refine pw_aloadn (aX12_meansReducedAll 37 rfl) rfl ?_
  refine pw_aloadn (aX12_meansReducedAll 38 rfl) rfl ?_
  refine pw_getr (v := .ref (base + 174)) (aX12_meansReducedAll 39 rfl) uf_RX12_181 un_RX12_181 (congrArg (fun r => va_rf (h_rf base r)) (q121_102 (hok).2.1)) ?_
  refine pw_aloadn (aX12_meansReducedAll 40 rfl) rfl ?_
  refine pw_getr (v := .int (FI 121 90)) (aX12_meansReducedAll 41 rfl) uf_RX12_556 un_RX12_556 rfl ?_
  refine pw_zaldr hkb (c := 174) (ix := (FI 121 90).toInt.toNat) (aX12_meansReducedAll 42 rfl) rfl (fun _ => ?_)
  refine pw_putri (aX12_meansReducedAll 43 rfl) uf_RX12_680 (fun _ _ _ => rfl) (fun t1 => ?_)
  refine pw_aloadn (aX12_meansReducedAll 44 rfl) rfl ?_
  refine pw_iconst (v := (1 : Int32)) (aX12_meansReducedAll 45 rfl) rfl ?_
  refine pw_callV (Bs := [.int ((1 : Int32))]) (rest := []) (aX12_meansReducedAll 46 rfl) um_RX12_715 ujX12_meansReduced wc_RX12_715.2.2.2.2 (by decide) (by decide) rfl rfl (fun d => rX12_meansReduced hkb ((1 : Int32)) n sl SH (h_up FI 121 104 (FI 174 (FI 121 90).toInt.toNat)) FL FR hok) (fun v1 n1 sl1 SH1 FI1 FL1 FR1 hok1 _ => ?_)
  show pw _ _ _ _ _ _ _ 84 _ [] _ _
  refine pw_goto (tgt := 5) (aX12_meansReducedAll 47 rfl) (by decide) ?_
  exact pw_Li (L2 := [(0, .ref (base + 121))]) [0] (hK5  n1 sl1 SH1 FI1 FL1 FR1 hok1) ⟨rfl, trivial⟩
set_option maxHeartbeats 4000000 in
set_option maxRecDepth 100000 in
theorem bX12_meansReducedAll_5 {sk : xK} {base N d : Nat} {K5 : Nat → Nat → (Nat → Nat × Nat) → (Nat → Nat → Int32) → (Nat → Nat → Int64) → (Nat → Nat → Option Nat) → Unit → hS → Prop} (hkb : x_kb sk base)    (n sl : Nat) (SH : Nat → Nat × Nat) (FI : Nat → Nat → Int32) (FL : Nat → Nat → Int64) (FR : Nat → Nat → Option Nat) (hok : pk n SH FR)  (hK5 : ∀  (n sl : Nat) (SH : Nat → Nat × Nat) (FI : Nat → Nat → Int32) (FL : Nat → Nat → Int64) (FR : Nat → Nat → Option Nat), pk n SH FR → pw pj_V sk base N d none 265 5 [(0, .ref (base + 121))] [] (n, sl, SH, FI, FL, FR) (K5  n sl SH FI FL FR)) : pw pj_V sk base (N + 1) d none 265 5 [(0, .ref (base + 121))] [] (n, sl, SH, FI, FL, FR) (BX12_meansReducedAll_5 K5   n sl SH FI FL FR) := by
  unfold BX12_meansReducedAll_5
  refine pd_aloadn (aX12_meansReducedAll 3 rfl) rfl ?_
  refine pw_cf (pw_callV (Bs := []) (rest := []) (aX12_meansReducedAll 4 rfl) um_RX12_559 ujX12_tops wc_RX12_559.2.2.2.2 (by decide) (by decide) rfl rfl (fun d => rX12_tops hkb  n sl SH FI FL FR hok) (fun v0 n0 sl0 SH0 FI0 FL0 FR0 _ hC => ?_))
  obtain ⟨rfl, hC⟩ := hC; cases hC
  show pw _ _ _ _ _ _ _ 9 _ [.int (fX12_tops  SH FI FL FR)] _ _
  refine pw_bipush (v := (-3 : Int32)) (aX12_meansReducedAll 5 rfl) rfl ?_
  refine pw_icne (tgt := 87) (aX12_meansReducedAll 6 rfl) (by decide) (fun b1 => ?_) (fun b1 => ?_)
  · skip
    refine pw_aloadn (aX12_meansReducedAll 7 rfl) rfl ?_
    refine pw_aloadn (aX12_meansReducedAll 8 rfl) rfl ?_
    refine pw_getr (v := .int (FI 121 90)) (aX12_meansReducedAll 9 rfl) uf_RX12_556 un_RX12_556 rfl ?_
    refine pw_iconst (v := (1 : Int32)) (aX12_meansReducedAll 10 rfl) rfl ?_
    refine pw_isub (aX12_meansReducedAll 11 rfl) ?_
    refine pw_putri (aX12_meansReducedAll 12 rfl) uf_RX12_556 (fun _ _ _ => rfl) (fun t3 => ?_)
    refine pw_aloadn (aX12_meansReducedAll 13 rfl) rfl ?_
    refine pw_aloadn (aX12_meansReducedAll 14 rfl) rfl ?_
    refine pw_getr (v := .int (FI 121 101)) (aX12_meansReducedAll 15 rfl) uf_RX12_683 un_RX12_683 rfl ?_
    refine pw_iconst (v := (1 : Int32)) (aX12_meansReducedAll 16 rfl) rfl ?_
    refine pw_isub (aX12_meansReducedAll 17 rfl) ?_
    refine pw_putri (aX12_meansReducedAll 18 rfl) uf_RX12_683 (fun _ _ _ => rfl) (fun t4 => ?_)
    refine pw_aloadn (aX12_meansReducedAll 19 rfl) rfl ?_
    refine pw_getr (v := .ref (base + 175)) (aX12_meansReducedAll 20 rfl) uf_RX12_184 un_RX12_184 (congrArg (fun r => va_rf (h_rf base r)) (q121_103 (hok).2.1)) ?_
    refine pw_aloadn (aX12_meansReducedAll 21 rfl) rfl ?_
    refine pw_getr (v := .int ((FI 121 90) - ((1 : Int32)))) (aX12_meansReducedAll 22 rfl) uf_RX12_556 un_RX12_556 rfl ?_
    refine pw_zaldr hkb (c := 175) (ix := ((FI 121 90) - ((1 : Int32))).toInt.toNat) (aX12_meansReducedAll 23 rfl) rfl (fun _ => ?_)
    refine pw_ifne (tgt := 66) (aX12_meansReducedAll 24 rfl) (by decide) (fun b4 => ?_) (fun b4 => ?_)
    · skip
      refine pw_aloadn (aX12_meansReducedAll 25 rfl) rfl ?_
      refine pw_getr (v := .ref (base + 173)) (aX12_meansReducedAll 26 rfl) uf_RX12_178 un_RX12_178 (congrArg (fun r => va_rf (h_rf base r)) (q121_100 (hok).2.1)) ?_
      refine pw_aloadn (aX12_meansReducedAll 27 rfl) rfl ?_
      refine pw_getr (v := .int ((FI 121 101) - ((1 : Int32)))) (aX12_meansReducedAll 28 rfl) uf_RX12_683 un_RX12_683 rfl ?_
      refine pw_iconst (v := (1 : Int32)) (aX12_meansReducedAll 29 rfl) rfl ?_
      refine pw_isub (aX12_meansReducedAll 30 rfl) ?_
      refine pw_aloadn (aX12_meansReducedAll 31 rfl) rfl ?_
      refine pw_getr (v := .ref (base + 173)) (aX12_meansReducedAll 32 rfl) uf_RX12_178 un_RX12_178 (congrArg (fun r => va_rf (h_rf base r)) (q121_100 (hok).2.1)) ?_
      refine pw_aloadn (aX12_meansReducedAll 33 rfl) rfl ?_
      refine pw_getr (v := .int ((FI 121 101) - ((1 : Int32)))) (aX12_meansReducedAll 34 rfl) uf_RX12_683 un_RX12_683 rfl ?_
      refine pw_laldr (c := 173) (ix := ((FI 121 101) - ((1 : Int32))).toInt.toNat) (aX12_meansReducedAll 35 rfl) rfl (fun _ => ?_)
      refine pw_lastr (c := 173) (ix := (((FI 121 101) - ((1 : Int32))) - ((1 : Int32))).toInt.toNat) (aX12_meansReducedAll 36 rfl) rfl (fun _ => ?_)
      exact pw_Li (L2 := [(0, .ref (base + 121))]) [0] (rX12_meansReducedAll_66 hkb   n sl SH (h_up (h_up FI 121 90 ((FI 121 90) - ((1 : Int32)))) 121 101 ((FI 121 101) - ((1 : Int32)))) (h_up FL 173 (((FI 121 101) - ((1 : Int32))) - ((1 : Int32))).toInt.toNat (FL 173 ((FI 121 101) - ((1 : Int32))).toInt.toNat)) FR hok  hK5) ⟨rfl, trivial⟩
    · skip
      exact pw_Li (L2 := [(0, .ref (base + 121))]) [0] (rX12_meansReducedAll_66 hkb   n sl SH (h_up (h_up FI 121 90 ((FI 121 90) - ((1 : Int32)))) 121 101 ((FI 121 101) - ((1 : Int32)))) FL FR hok  hK5) ⟨rfl, trivial⟩
  · skip
    exact pw_vret (aX12_meansReducedAll 48 rfl) hok
theorem gX12_meansReducedAll_5 {sk : xK} {base d : Nat}  (hkb : x_kb sk base)  (N : Nat) :  ∀   (n sl : Nat) (SH : Nat → Nat × Nat) (FI : Nat → Nat → Int32) (FL : Nat → Nat → Int64) (FR : Nat → Nat → Option Nat), pk n SH FR → pw pj_V sk base N d none 265 5 [(0, .ref (base + 121))] [] (n, sl, SH, FI, FL, FR) (GX12_meansReducedAll_5   (N + 1)  n sl SH FI FL FR) := by
  induction N with
  | zero => intros; exact pw_0
  | succ N ih => intro     n sl SH FI FL FR hok; exact bX12_meansReducedAll_5 hkb    n sl SH FI FL FR hok  (ih  )
theorem rX12_meansReducedAll_5 {sk : xK} {base N d : Nat}  (hkb : x_kb sk base)    (n sl : Nat) (SH : Nat → Nat × Nat) (FI : Nat → Nat → Int32) (FL : Nat → Nat → Int64) (FR : Nat → Nat → Option Nat) (hok : pk n SH FR)   : pw pj_V sk base N d none 265 5 [(0, .ref (base + 121))] [] (n, sl, SH, FI, FL, FR) (RX12_meansReducedAll_5    n sl SH FI FL FR) := pw_cons (gX12_meansReducedAll_5 hkb  N     n sl SH FI FL FR hok) (fun _ _ h => ⟨_, h⟩)
set_option maxHeartbeats 4000000 in
set_option maxRecDepth 100000 in
theorem rX12_meansReducedAll {sk : xK} {base N d : Nat} (hkb : x_kb sk base)  (n sl : Nat) (SH : Nat → Nat × Nat) (FI : Nat → Nat → Int32) (FL : Nat → Nat → Int64) (FR : Nat → Nat → Option Nat) (hok : pk n SH FR)  : pw pj_V sk base N d none 265 0 [(0, .ref (base + 121))] [] (n, sl, SH, FI, FL, FR) (RX12_meansReducedAll  n sl SH FI FL FR) := by
  unfold RX12_meansReducedAll
  refine pw_aloadn (aX12_meansReducedAll 0 rfl) rfl ?_
  refine pw_iconst (v := (1 : Int32)) (aX12_meansReducedAll 1 rfl) rfl ?_
  refine pw_callV (Bs := [.int ((1 : Int32))]) (rest := []) (aX12_meansReducedAll 2 rfl) um_RX12_715 ujX12_meansReduced wc_RX12_715.2.2.2.2 (by decide) (by decide) rfl rfl (fun d => rX12_meansReduced hkb ((1 : Int32)) n sl SH FI FL FR hok) (fun v0 n0 sl0 SH0 FI0 FL0 FR0 hok0 _ => ?_)
  show pw _ _ _ _ _ _ _ 5 _ [] _ _
  exact pw_Li (L2 := [(0, .ref (base + 121))]) [0] (rX12_meansReducedAll_5 hkb   n0 sl0 SH0 FI0 FL0 FR0 hok0  ) ⟨rfl, trivial⟩
set_option maxHeartbeats 4000000 in
set_option maxRecDepth 100000 in
theorem rX12_meansBinary {sk : xK} {base N d : Nat} (hkb : x_kb sk base) (a1 : Int32) (a2 : Int32) (n sl : Nat) (SH : Nat → Nat × Nat) (FI : Nat → Nat → Int32) (FL : Nat → Nat → Int64) (FR : Nat → Nat → Option Nat) (hok : pk n SH FR)  : pw pj_I sk base N d none 266 0 [(0, .ref (base + 121)), (1, .int (a1)), (2, .int (a2))] [] (n, sl, SH, FI, FL, FR) (RX12_meansBinary a1 a2 n sl SH FI FL FR) := by
  unfold RX12_meansBinary
  refine pw_aloadn (aX12_meansBinary 0 rfl) rfl ?_
  refine pw_iloadn (aX12_meansBinary 1 rfl) rfl ?_
  refine pw_callV (Bs := [.int (a2)]) (rest := []) (aX12_meansBinary 2 rfl) um_RX12_715 ujX12_meansReduced wc_RX12_715.2.2.2.2 (by decide) (by decide) rfl rfl (fun d => rX12_meansReduced hkb (a2) n sl SH FI FL FR hok) (fun v0 n0 sl0 SH0 FI0 FL0 FR0 hok0 _ => ?_)
  show pw _ _ _ _ _ _ _ 5 _ [] _ _
  refine pw_aloadn (aX12_meansBinary 3 rfl) rfl ?_
  refine pw_iloadn (aX12_meansBinary 4 rfl) rfl ?_
  refine pw_iloadn (aX12_meansBinary 5 rfl) rfl ?_
  refine pw_callV (Bs := [.int (a1), .int (a2)]) (rest := []) (aX12_meansBinary 6 rfl) um_RX12_580 ujX12_later wc_RX12_580.2.2.2.2 (by decide) (by decide) rfl rfl (fun d => rX12_later hkb (a1) (a2) n0 sl0 SH0 FI0 FL0 FR0 hok0) (fun v1 n1 sl1 SH1 FI1 FL1 FR1 hok1 _ => ?_)
  show pw _ _ _ _ _ _ _ 11 _ [] _ _
  refine pw_aloadn (aX12_meansBinary 7 rfl) rfl ?_
  refine pw_aloadn (aX12_meansBinary 8 rfl) rfl ?_
  refine pw_getr (v := .int (FI1 121 92)) (aX12_meansBinary 9 rfl) uf_RX12_656 un_RX12_656 rfl ?_
  refine pw_iconst (v := (1 : Int32)) (aX12_meansBinary 10 rfl) rfl ?_
  refine pw_iadd (aX12_meansBinary 11 rfl) ?_
  refine pw_putri (aX12_meansBinary 12 rfl) uf_RX12_656 (fun _ _ _ => rfl) (fun t3 => ?_)
  refine pw_iconst (v := (1 : Int32)) (aX12_meansBinary 13 rfl) rfl ?_
  exact pw_iret (aX12_meansBinary 14 rfl) hok1
set_option maxHeartbeats 4000000 in
set_option maxRecDepth 100000 in
theorem rX12_meansOperand_55 {sk : xK} {base N d : Nat}  (hkb : x_kb sk base)  (l1i : Int32) (l2l : Int64)  (n sl : Nat) (SH : Nat → Nat × Nat) (FI : Nat → Nat → Int32) (FL : Nat → Nat → Int64) (FR : Nat → Nat → Option Nat) (hok : pk n SH FR)   : pw pj_I sk base N d none 261 55 [(0, .ref (base + 121)), (1, .int (l1i)), (2, .long (l2l))] [] (n, sl, SH, FI, FL, FR) (RX12_meansOperand_55   l1i l2l n sl SH FI FL FR) := by
  unfold RX12_meansOperand_55
  refine pw_aloadn (aX12_meansOperand 30 rfl) rfl ?_
  refine pw_iloadn (aX12_meansOperand 31 rfl) rfl ?_
  refine pw_iconst (v := (4 : Int32)) (aX12_meansOperand 32 rfl) rfl ?_
  refine pw_icne (tgt := 70) (aX12_meansOperand 33 rfl) (by decide) (fun b0 => ?_) (fun b0 => ?_)
  · skip
    refine pw_sipush (v := (256 : Int32)) (aX12_meansOperand 34 rfl) rfl ?_
    refine pw_lloadn (aX12_meansOperand 35 rfl) rfl ?_
    refine pw_l2i (aX12_meansOperand 36 rfl) ?_
    refine pw_iadd (aX12_meansOperand 37 rfl) ?_
    refine pw_goto (tgt := 96) (aX12_meansOperand 38 rfl) (by decide) ?_
    refine pw_bipush (v := (9 : Int32)) (aX12_meansOperand 51 rfl) rfl ?_
    refine pw_callV (Bs := [.int (((256 : Int32)) + ((l2l).toInt32)), .int ((9 : Int32))]) (rest := []) (aX12_meansOperand 52 rfl) um_RX12_580 ujX12_later wc_RX12_580.2.2.2.2 (by decide) (by decide) rfl rfl (fun d => rX12_later hkb (((256 : Int32)) + ((l2l).toInt32)) ((9 : Int32)) n sl SH FI FL FR hok) (fun v1 n1 sl1 SH1 FI1 FL1 FR1 hok1 _ => ?_)
    show pw _ _ _ _ _ _ _ 101 _ [] _ _
    refine pw_aloadn (aX12_meansOperand 53 rfl) rfl ?_
    refine pw_aloadn (aX12_meansOperand 54 rfl) rfl ?_
    refine pw_getr (v := .int (FI1 121 92)) (aX12_meansOperand 55 rfl) uf_RX12_656 un_RX12_656 rfl ?_
    refine pw_iconst (v := (1 : Int32)) (aX12_meansOperand 56 rfl) rfl ?_
    refine pw_iadd (aX12_meansOperand 57 rfl) ?_
    refine pw_putri (aX12_meansOperand 58 rfl) uf_RX12_656 (fun _ _ _ => rfl) (fun t3 => ?_)
    refine pw_iconst (v := (0 : Int32)) (aX12_meansOperand 59 rfl) rfl ?_
    exact pw_iret (aX12_meansOperand 60 rfl) hok1
  · skip
    refine pw_iloadn (aX12_meansOperand 39 rfl) rfl ?_
    refine pw_iconst (v := (2 : Int32)) (aX12_meansOperand 40 rfl) rfl ?_
    refine pw_icne (tgt := 81) (aX12_meansOperand 41 rfl) (by decide) (fun b3 => ?_) (fun b3 => ?_)
    · skip
      refine pw_sipush (v := (155 : Int32)) (aX12_meansOperand 42 rfl) rfl ?_
      refine pw_goto (tgt := 96) (aX12_meansOperand 43 rfl) (by decide) ?_
      refine pw_bipush (v := (9 : Int32)) (aX12_meansOperand 51 rfl) rfl ?_
      refine pw_callV (Bs := [.int ((155 : Int32)), .int ((9 : Int32))]) (rest := []) (aX12_meansOperand 52 rfl) um_RX12_580 ujX12_later wc_RX12_580.2.2.2.2 (by decide) (by decide) rfl rfl (fun d => rX12_later hkb ((155 : Int32)) ((9 : Int32)) n sl SH FI FL FR hok) (fun v4 n4 sl4 SH4 FI4 FL4 FR4 hok4 _ => ?_)
      show pw _ _ _ _ _ _ _ 101 _ [] _ _
      refine pw_aloadn (aX12_meansOperand 53 rfl) rfl ?_
      refine pw_aloadn (aX12_meansOperand 54 rfl) rfl ?_
      refine pw_getr (v := .int (FI4 121 92)) (aX12_meansOperand 55 rfl) uf_RX12_656 un_RX12_656 rfl ?_
      refine pw_iconst (v := (1 : Int32)) (aX12_meansOperand 56 rfl) rfl ?_
      refine pw_iadd (aX12_meansOperand 57 rfl) ?_
      refine pw_putri (aX12_meansOperand 58 rfl) uf_RX12_656 (fun _ _ _ => rfl) (fun t6 => ?_)
      refine pw_iconst (v := (0 : Int32)) (aX12_meansOperand 59 rfl) rfl ?_
      exact pw_iret (aX12_meansOperand 60 rfl) hok4
    · skip
      refine pw_lloadn (aX12_meansOperand 44 rfl) rfl ?_
      refine pw_ldc2 (v := (45 : Int64)) (aX12_meansOperand 45 rfl) uk_RX12_651 ?_
      refine pw_lcne (tgt := 94) (aX12_meansOperand 46 rfl) (aX12_meansOperand 47 rfl) (by decide) (fun b6 => ?_) (fun b6 => ?_)
      · skip
        refine pw_bipush (v := (31 : Int32)) (aX12_meansOperand 48 rfl) rfl ?_
        refine pw_goto (tgt := 96) (aX12_meansOperand 49 rfl) (by decide) ?_
        refine pw_bipush (v := (9 : Int32)) (aX12_meansOperand 51 rfl) rfl ?_
        refine pw_callV (Bs := [.int ((31 : Int32)), .int ((9 : Int32))]) (rest := []) (aX12_meansOperand 52 rfl) um_RX12_580 ujX12_later wc_RX12_580.2.2.2.2 (by decide) (by decide) rfl rfl (fun d => rX12_later hkb ((31 : Int32)) ((9 : Int32)) n sl SH FI FL FR hok) (fun v7 n7 sl7 SH7 FI7 FL7 FR7 hok7 _ => ?_)
        show pw _ _ _ _ _ _ _ 101 _ [] _ _
        refine pw_aloadn (aX12_meansOperand 53 rfl) rfl ?_
        refine pw_aloadn (aX12_meansOperand 54 rfl) rfl ?_
        refine pw_getr (v := .int (FI7 121 92)) (aX12_meansOperand 55 rfl) uf_RX12_656 un_RX12_656 rfl ?_
        refine pw_iconst (v := (1 : Int32)) (aX12_meansOperand 56 rfl) rfl ?_
        refine pw_iadd (aX12_meansOperand 57 rfl) ?_
        refine pw_putri (aX12_meansOperand 58 rfl) uf_RX12_656 (fun _ _ _ => rfl) (fun t9 => ?_)
        refine pw_iconst (v := (0 : Int32)) (aX12_meansOperand 59 rfl) rfl ?_
        exact pw_iret (aX12_meansOperand 60 rfl) hok7
      · skip
        refine pw_bipush (v := (32 : Int32)) (aX12_meansOperand 50 rfl) rfl ?_
        refine pw_bipush (v := (9 : Int32)) (aX12_meansOperand 51 rfl) rfl ?_
        refine pw_callV (Bs := [.int ((32 : Int32)), .int ((9 : Int32))]) (rest := []) (aX12_meansOperand 52 rfl) um_RX12_580 ujX12_later wc_RX12_580.2.2.2.2 (by decide) (by decide) rfl rfl (fun d => rX12_later hkb ((32 : Int32)) ((9 : Int32)) n sl SH FI FL FR hok) (fun v9 n9 sl9 SH9 FI9 FL9 FR9 hok9 _ => ?_)
        show pw _ _ _ _ _ _ _ 101 _ [] _ _
        refine pw_aloadn (aX12_meansOperand 53 rfl) rfl ?_
        refine pw_aloadn (aX12_meansOperand 54 rfl) rfl ?_
        refine pw_getr (v := .int (FI9 121 92)) (aX12_meansOperand 55 rfl) uf_RX12_656 un_RX12_656 rfl ?_
        refine pw_iconst (v := (1 : Int32)) (aX12_meansOperand 56 rfl) rfl ?_
        refine pw_iadd (aX12_meansOperand 57 rfl) ?_
        refine pw_putri (aX12_meansOperand 58 rfl) uf_RX12_656 (fun _ _ _ => rfl) (fun t11 => ?_)
        refine pw_iconst (v := (0 : Int32)) (aX12_meansOperand 59 rfl) rfl ?_
        exact pw_iret (aX12_meansOperand 60 rfl) hok9
set_option maxHeartbeats 4000000 in
set_option maxRecDepth 100000 in
theorem rX12_meansOperand_223 {sk : xK} {base N d : Nat}  (hkb : x_kb sk base)   (l1i : Int32) (l2l : Int64) (n sl : Nat) (SH : Nat → Nat × Nat) (FI : Nat → Nat → Int32) (FL : Nat → Nat → Int64) (FR : Nat → Nat → Option Nat) (hok : pk n SH FR)   : pw pj_I sk base N d none 261 223 [(0, .ref (base + 121)), (1, .int (l1i)), (2, .long (l2l))] [] (n, sl, SH, FI, FL, FR) (RX12_meansOperand_223    n sl SH FI FL FR) := by
  unfold RX12_meansOperand_223
  refine pw_aloadn (aX12_meansOperand 122 rfl) rfl ?_
  refine pw_aloadn (aX12_meansOperand 123 rfl) rfl ?_
  refine pw_getr (v := .int (FI 121 6)) (aX12_meansOperand 124 rfl) uf_RX12_27 un_RX12_27 rfl ?_
  refine pw_iconst (v := (-1 : Int32)) (aX12_meansOperand 125 rfl) rfl ?_
  refine pw_icne (tgt := 236) (aX12_meansOperand 126 rfl) (by decide) (fun b0 => ?_) (fun b0 => ?_)
  · skip
    refine pw_lconst (v := (0 : Int64)) (aX12_meansOperand 127 rfl) rfl ?_
    refine pw_goto (tgt := 250) (aX12_meansOperand 128 rfl) (by decide) ?_
    refine pw_callV (Bs := [.long ((0 : Int64))]) (rest := []) (aX12_meansOperand 137 rfl) um_RX12_699 ujX12_value wc_RX12_699.2.2.2.2 (by decide) (by decide) rfl rfl (fun d => rX12_value hkb ((0 : Int64)) n sl SH FI FL FR hok) (fun v1 n1 sl1 SH1 FI1 FL1 FR1 hok1 _ => ?_)
    show pw _ _ _ _ _ _ _ 253 _ [] _ _
    refine pw_goto (tgt := 314) (aX12_meansOperand 138 rfl) (by decide) ?_
    refine pw_aloadn (aX12_meansOperand 166 rfl) rfl ?_
    refine pw_callV (Bs := []) (rest := []) (aX12_meansOperand 167 rfl) um_RX12_712 ujX12_meansFinished wc_RX12_712.2.2.2.2 (by decide) (by decide) rfl rfl (fun d => rX12_meansFinished hkb  n1 sl1 SH1 FI1 FL1 FR1 hok1) (fun v2 n2 sl2 SH2 FI2 FL2 FR2 hok2 _ => ?_)
    show pw _ _ _ _ _ _ _ 318 _ [] _ _
    refine pw_iconst (v := (1 : Int32)) (aX12_meansOperand 168 rfl) rfl ?_
    exact pw_iret (aX12_meansOperand 169 rfl) hok2
  · skip
    refine pw_aloadn (aX12_meansOperand 129 rfl) rfl ?_
    refine pw_getr (v := .ref (base + 122)) (aX12_meansOperand 130 rfl) uf_RX12_7 un_RX12_7 (congrArg (fun r => va_rf (h_rf base r)) (q121_1 (hok).2.1)) ?_
    refine pw_aloadn (aX12_meansOperand 131 rfl) rfl ?_
    refine pw_getr (v := .int (FI 121 6)) (aX12_meansOperand 132 rfl) uf_RX12_27 un_RX12_27 rfl ?_
    refine pw_laldr (c := 122) (ix := (FI 121 6).toInt.toNat) (aX12_meansOperand 133 rfl) rfl (fun _ => ?_)
    refine pw_aloadn (aX12_meansOperand 134 rfl) rfl ?_
    refine pw_getr (v := .long (FL 121 7)) (aX12_meansOperand 135 rfl) uf_RX12_201 un_RX12_201 rfl ?_
    refine pw_ladd (aX12_meansOperand 136 rfl) ?_
    refine pw_callV (Bs := [.long ((FL 122 (FI 121 6).toInt.toNat) + (FL 121 7))]) (rest := []) (aX12_meansOperand 137 rfl) um_RX12_699 ujX12_value wc_RX12_699.2.2.2.2 (by decide) (by decide) rfl rfl (fun d => rX12_value hkb ((FL 122 (FI 121 6).toInt.toNat) + (FL 121 7)) n sl SH FI FL FR hok) (fun v3 n3 sl3 SH3 FI3 FL3 FR3 hok3 _ => ?_)
    show pw _ _ _ _ _ _ _ 253 _ [] _ _
    refine pw_goto (tgt := 314) (aX12_meansOperand 138 rfl) (by decide) ?_
    refine pw_aloadn (aX12_meansOperand 166 rfl) rfl ?_
    refine pw_callV (Bs := []) (rest := []) (aX12_meansOperand 167 rfl) um_RX12_712 ujX12_meansFinished wc_RX12_712.2.2.2.2 (by decide) (by decide) rfl rfl (fun d => rX12_meansFinished hkb  n3 sl3 SH3 FI3 FL3 FR3 hok3) (fun v4 n4 sl4 SH4 FI4 FL4 FR4 hok4 _ => ?_)
    show pw _ _ _ _ _ _ _ 318 _ [] _ _
    refine pw_iconst (v := (1 : Int32)) (aX12_meansOperand 168 rfl) rfl ?_
    exact pw_iret (aX12_meansOperand 169 rfl) hok4
set_option maxHeartbeats 4000000 in
set_option maxRecDepth 100000 in
theorem rX12_meansOperand_144 {sk : xK} {base N d : Nat}  (hkb : x_kb sk base)  (l1i : Int32) (l2l : Int64)  (n sl : Nat) (SH : Nat → Nat × Nat) (FI : Nat → Nat → Int32) (FL : Nat → Nat → Int64) (FR : Nat → Nat → Option Nat) (hok : pk n SH FR)   : pw pj_I sk base N d none 261 144 [(0, .ref (base + 121)), (1, .int (l1i)), (2, .long (l2l))] [] (n, sl, SH, FI, FL, FR) (RX12_meansOperand_144   l1i l2l n sl SH FI FL FR) := by
  unfold RX12_meansOperand_144
  refine pw_iloadn (aX12_meansOperand 80 rfl) rfl ?_
  refine pw_iconst (v := (3 : Int32)) (aX12_meansOperand 81 rfl) rfl ?_
  refine pw_icne (tgt := 157) (aX12_meansOperand 82 rfl) (by decide) (fun b0 => ?_) (fun b0 => ?_)
  · skip
    refine pw_aloadn (aX12_meansOperand 83 rfl) rfl ?_
    refine pw_lloadn (aX12_meansOperand 84 rfl) rfl ?_
    refine pw_callV (Bs := [.long (l2l)]) (rest := []) (aX12_meansOperand 85 rfl) um_RX12_699 ujX12_value wc_RX12_699.2.2.2.2 (by decide) (by decide) rfl rfl (fun d => rX12_value hkb (l2l) n sl SH FI FL FR hok) (fun v1 n1 sl1 SH1 FI1 FL1 FR1 hok1 _ => ?_)
    show pw _ _ _ _ _ _ _ 154 _ [] _ _
    refine pw_goto (tgt := 314) (aX12_meansOperand 86 rfl) (by decide) ?_
    refine pw_aloadn (aX12_meansOperand 166 rfl) rfl ?_
    refine pw_callV (Bs := []) (rest := []) (aX12_meansOperand 167 rfl) um_RX12_712 ujX12_meansFinished wc_RX12_712.2.2.2.2 (by decide) (by decide) rfl rfl (fun d => rX12_meansFinished hkb  n1 sl1 SH1 FI1 FL1 FR1 hok1) (fun v2 n2 sl2 SH2 FI2 FL2 FR2 hok2 _ => ?_)
    show pw _ _ _ _ _ _ _ 318 _ [] _ _
    refine pw_iconst (v := (1 : Int32)) (aX12_meansOperand 168 rfl) rfl ?_
    exact pw_iret (aX12_meansOperand 169 rfl) hok2
  · skip
    refine pw_iloadn (aX12_meansOperand 87 rfl) rfl ?_
    refine pw_iconst (v := (5 : Int32)) (aX12_meansOperand 88 rfl) rfl ?_
    refine pw_icne (tgt := 194) (aX12_meansOperand 89 rfl) (by decide) (fun b3 => ?_) (fun b3 => ?_)
    · skip
      refine pw_aloadn (aX12_meansOperand 90 rfl) rfl ?_
      refine pw_aloadn (aX12_meansOperand 91 rfl) rfl ?_
      refine pw_getr (v := .ref (base + 122)) (aX12_meansOperand 92 rfl) uf_RX12_7 un_RX12_7 (congrArg (fun r => va_rf (h_rf base r)) (q121_1 (hok).2.1)) ?_
      refine pw_aloadn (aX12_meansOperand 93 rfl) rfl ?_
      refine pw_getr (v := .ref (base + 153)) (aX12_meansOperand 94 rfl) uf_RX12_117 un_RX12_117 (congrArg (fun r => va_rf (h_rf base r)) (q121_66 (hok).2.1)) ?_
      refine pw_aloadn (aX12_meansOperand 95 rfl) rfl ?_
      refine pw_getr (v := .int (FI 121 92)) (aX12_meansOperand 96 rfl) uf_RX12_656 un_RX12_656 rfl ?_
      refine pw_laldr (c := 153) (ix := (FI 121 92).toInt.toNat) (aX12_meansOperand 97 rfl) rfl (fun _ => ?_)
      refine pw_l2i (aX12_meansOperand 98 rfl) ?_
      refine pw_laldr (c := 122) (ix := ((FL 153 (FI 121 92).toInt.toNat).toInt32).toInt.toNat) (aX12_meansOperand 99 rfl) rfl (fun _ => ?_)
      refine pw_callV (Bs := [.long (FL 122 ((FL 153 (FI 121 92).toInt.toNat).toInt32).toInt.toNat)]) (rest := []) (aX12_meansOperand 100 rfl) um_RX12_699 ujX12_value wc_RX12_699.2.2.2.2 (by decide) (by decide) rfl rfl (fun d => rX12_value hkb (FL 122 ((FL 153 (FI 121 92).toInt.toNat).toInt32).toInt.toNat) n sl SH FI FL FR hok) (fun v4 n4 sl4 SH4 FI4 FL4 FR4 hok4 _ => ?_)
      show pw _ _ _ _ _ _ _ 181 _ [] _ _
      refine pw_aloadn (aX12_meansOperand 101 rfl) rfl ?_
      refine pw_aloadn (aX12_meansOperand 102 rfl) rfl ?_
      refine pw_getr (v := .int (FI4 121 92)) (aX12_meansOperand 103 rfl) uf_RX12_656 un_RX12_656 rfl ?_
      refine pw_iconst (v := (1 : Int32)) (aX12_meansOperand 104 rfl) rfl ?_
      refine pw_iadd (aX12_meansOperand 105 rfl) ?_
      refine pw_putri (aX12_meansOperand 106 rfl) uf_RX12_656 (fun _ _ _ => rfl) (fun t6 => ?_)
      refine pw_goto (tgt := 314) (aX12_meansOperand 107 rfl) (by decide) ?_
      refine pw_aloadn (aX12_meansOperand 166 rfl) rfl ?_
      refine pw_callV (Bs := []) (rest := []) (aX12_meansOperand 167 rfl) um_RX12_712 ujX12_meansFinished wc_RX12_712.2.2.2.2 (by decide) (by decide) rfl rfl (fun d => rX12_meansFinished hkb  n4 sl4 SH4 (h_up FI4 121 92 ((FI4 121 92) + ((1 : Int32)))) FL4 FR4 hok4) (fun v6 n6 sl6 SH6 FI6 FL6 FR6 hok6 _ => ?_)
      show pw _ _ _ _ _ _ _ 318 _ [] _ _
      refine pw_iconst (v := (1 : Int32)) (aX12_meansOperand 168 rfl) rfl ?_
      exact pw_iret (aX12_meansOperand 169 rfl) hok6
    · skip
      refine pw_lloadn (aX12_meansOperand 108 rfl) rfl ?_
      refine pw_ldc2 (v := (5 : Int64)) (aX12_meansOperand 109 rfl) uk_RX12_702 ?_
      refine pw_lcne (tgt := 256) (aX12_meansOperand 110 rfl) (aX12_meansOperand 111 rfl) (by decide) (fun b7 => ?_) (fun b7 => ?_)
      · skip
        refine pw_aloadn (aX12_meansOperand 112 rfl) rfl ?_
        refine pw_cf (pw_callV (Bs := []) (rest := []) (aX12_meansOperand 113 rfl) um_RX12_704 ujX12_does wc_RX12_704.2.2.2.2 (by decide) (by decide) rfl rfl (fun d => rX12_does hkb  n sl SH FI FL FR hok) (fun v8 n8 sl8 SH8 FI8 FL8 FR8 _ hC => ?_))
        obtain ⟨rfl, hC⟩ := hC; cases hC
        show pw _ _ _ _ _ _ _ 206 _ [.int (fX12_does  SH FI FL FR)] _ _
        refine pw_ifeq (tgt := 223) (aX12_meansOperand 114 rfl) (by decide) (fun b9 => ?_) (fun b9 => ?_)
        · skip
          exact pw_Li (L2 := [(0, .ref (base + 121)), (1, .int (l1i)), (2, .long (l2l))]) [0, 1, 2] (rX12_meansOperand_223 hkb  (l1i) (l2l) n sl SH FI FL FR hok  ) ⟨rfl, rfl, rfl, trivial⟩
        · skip
          refine pw_aloadn (aX12_meansOperand 115 rfl) rfl ?_
          refine pw_getr (v := .int (FI 121 6)) (aX12_meansOperand 116 rfl) uf_RX12_27 un_RX12_27 rfl ?_
          refine pw_iconst (v := (-1 : Int32)) (aX12_meansOperand 117 rfl) rfl ?_
          refine pw_icne (tgt := 223) (aX12_meansOperand 118 rfl) (by decide) (fun b10 => ?_) (fun b10 => ?_)
          · skip
            refine pw_aloadn (aX12_meansOperand 119 rfl) rfl ?_
            refine pw_bipush (v := (11 : Int32)) (aX12_meansOperand 120 rfl) rfl ?_
            refine pw_putri (aX12_meansOperand 121 rfl) uf_RX12_653 (fun _ _ _ => rfl) (fun t12 => ?_)
            exact pw_Li (L2 := [(0, .ref (base + 121)), (1, .int (l1i)), (2, .long (l2l))]) [0, 1, 2] (rX12_meansOperand_223 hkb  (l1i) (l2l) n sl SH (h_up FI 121 93 ((11 : Int32))) FL FR hok  ) ⟨rfl, rfl, rfl, trivial⟩
          · skip
            exact pw_Li (L2 := [(0, .ref (base + 121)), (1, .int (l1i)), (2, .long (l2l))]) [0, 1, 2] (rX12_meansOperand_223 hkb  (l1i) (l2l) n sl SH FI FL FR hok  ) ⟨rfl, rfl, rfl, trivial⟩
      · skip
        refine pw_lloadn (aX12_meansOperand 139 rfl) rfl ?_
        refine pw_ldc2 (v := (6 : Int64)) (aX12_meansOperand 140 rfl) uk_RX12_707 ?_
        refine pw_lcne (tgt := 295) (aX12_meansOperand 141 rfl) (aX12_meansOperand 142 rfl) (by decide) (fun b12 => ?_) (fun b12 => ?_)
        · skip
          refine pw_aloadn (aX12_meansOperand 143 rfl) rfl ?_
          refine pw_cf (pw_callV (Bs := []) (rest := []) (aX12_meansOperand 144 rfl) um_RX12_704 ujX12_does wc_RX12_704.2.2.2.2 (by decide) (by decide) rfl rfl (fun d => rX12_does hkb  n sl SH FI FL FR hok) (fun v13 n13 sl13 SH13 FI13 FL13 FR13 _ hC => ?_))
          obtain ⟨rfl, hC⟩ := hC; cases hC
          show pw _ _ _ _ _ _ _ 268 _ [.int (fX12_does  SH FI FL FR)] _ _
          refine pw_ifeq (tgt := 284) (aX12_meansOperand 145 rfl) (by decide) (fun b14 => ?_) (fun b14 => ?_)
          · skip
            refine pw_aloadn (aX12_meansOperand 152 rfl) rfl ?_
            refine pw_aloadn (aX12_meansOperand 153 rfl) rfl ?_
            refine pw_getr (v := .long (FL 121 8)) (aX12_meansOperand 154 rfl) uf_RX12_205 un_RX12_205 rfl ?_
            refine pw_callV (Bs := [.long (FL 121 8)]) (rest := []) (aX12_meansOperand 155 rfl) um_RX12_699 ujX12_value wc_RX12_699.2.2.2.2 (by decide) (by decide) rfl rfl (fun d => rX12_value hkb (FL 121 8) n sl SH FI FL FR hok) (fun v15 n15 sl15 SH15 FI15 FL15 FR15 hok15 _ => ?_)
            show pw _ _ _ _ _ _ _ 292 _ [] _ _
            refine pw_goto (tgt := 314) (aX12_meansOperand 156 rfl) (by decide) ?_
            refine pw_aloadn (aX12_meansOperand 166 rfl) rfl ?_
            refine pw_callV (Bs := []) (rest := []) (aX12_meansOperand 167 rfl) um_RX12_712 ujX12_meansFinished wc_RX12_712.2.2.2.2 (by decide) (by decide) rfl rfl (fun d => rX12_meansFinished hkb  n15 sl15 SH15 FI15 FL15 FR15 hok15) (fun v16 n16 sl16 SH16 FI16 FL16 FR16 hok16 _ => ?_)
            show pw _ _ _ _ _ _ _ 318 _ [] _ _
            refine pw_iconst (v := (1 : Int32)) (aX12_meansOperand 168 rfl) rfl ?_
            exact pw_iret (aX12_meansOperand 169 rfl) hok16
          · skip
            refine pw_aloadn (aX12_meansOperand 146 rfl) rfl ?_
            refine pw_getr (v := .int (FI 121 10)) (aX12_meansOperand 147 rfl) uf_RX12_208 un_RX12_208 rfl ?_
            refine pw_ifne (tgt := 284) (aX12_meansOperand 148 rfl) (by decide) (fun b17 => ?_) (fun b17 => ?_)
            · skip
              refine pw_aloadn (aX12_meansOperand 149 rfl) rfl ?_
              refine pw_bipush (v := (11 : Int32)) (aX12_meansOperand 150 rfl) rfl ?_
              refine pw_putri (aX12_meansOperand 151 rfl) uf_RX12_653 (fun _ _ _ => rfl) (fun t19 => ?_)
              refine pw_aloadn (aX12_meansOperand 152 rfl) rfl ?_
              refine pw_aloadn (aX12_meansOperand 153 rfl) rfl ?_
              refine pw_getr (v := .long (FL 121 8)) (aX12_meansOperand 154 rfl) uf_RX12_205 un_RX12_205 rfl ?_
              refine pw_callV (Bs := [.long (FL 121 8)]) (rest := []) (aX12_meansOperand 155 rfl) um_RX12_699 ujX12_value wc_RX12_699.2.2.2.2 (by decide) (by decide) rfl rfl (fun d => rX12_value hkb (FL 121 8) n sl SH (h_up FI 121 93 ((11 : Int32))) FL FR hok) (fun v19 n19 sl19 SH19 FI19 FL19 FR19 hok19 _ => ?_)
              show pw _ _ _ _ _ _ _ 292 _ [] _ _
              refine pw_goto (tgt := 314) (aX12_meansOperand 156 rfl) (by decide) ?_
              refine pw_aloadn (aX12_meansOperand 166 rfl) rfl ?_
              refine pw_callV (Bs := []) (rest := []) (aX12_meansOperand 167 rfl) um_RX12_712 ujX12_meansFinished wc_RX12_712.2.2.2.2 (by decide) (by decide) rfl rfl (fun d => rX12_meansFinished hkb  n19 sl19 SH19 FI19 FL19 FR19 hok19) (fun v20 n20 sl20 SH20 FI20 FL20 FR20 hok20 _ => ?_)
              show pw _ _ _ _ _ _ _ 318 _ [] _ _
              refine pw_iconst (v := (1 : Int32)) (aX12_meansOperand 168 rfl) rfl ?_
              exact pw_iret (aX12_meansOperand 169 rfl) hok20
            · skip
              refine pw_aloadn (aX12_meansOperand 152 rfl) rfl ?_
              refine pw_aloadn (aX12_meansOperand 153 rfl) rfl ?_
              refine pw_getr (v := .long (FL 121 8)) (aX12_meansOperand 154 rfl) uf_RX12_205 un_RX12_205 rfl ?_
              refine pw_callV (Bs := [.long (FL 121 8)]) (rest := []) (aX12_meansOperand 155 rfl) um_RX12_699 ujX12_value wc_RX12_699.2.2.2.2 (by decide) (by decide) rfl rfl (fun d => rX12_value hkb (FL 121 8) n sl SH FI FL FR hok) (fun v21 n21 sl21 SH21 FI21 FL21 FR21 hok21 _ => ?_)
              show pw _ _ _ _ _ _ _ 292 _ [] _ _
              refine pw_goto (tgt := 314) (aX12_meansOperand 156 rfl) (by decide) ?_
              refine pw_aloadn (aX12_meansOperand 166 rfl) rfl ?_
              refine pw_callV (Bs := []) (rest := []) (aX12_meansOperand 167 rfl) um_RX12_712 ujX12_meansFinished wc_RX12_712.2.2.2.2 (by decide) (by decide) rfl rfl (fun d => rX12_meansFinished hkb  n21 sl21 SH21 FI21 FL21 FR21 hok21) (fun v22 n22 sl22 SH22 FI22 FL22 FR22 hok22 _ => ?_)
              show pw _ _ _ _ _ _ _ 318 _ [] _ _
              refine pw_iconst (v := (1 : Int32)) (aX12_meansOperand 168 rfl) rfl ?_
              exact pw_iret (aX12_meansOperand 169 rfl) hok22
        · skip
          refine pw_aloadn (aX12_meansOperand 157 rfl) rfl ?_
          refine pw_cf (pw_callV (Bs := []) (rest := []) (aX12_meansOperand 158 rfl) um_RX12_704 ujX12_does wc_RX12_704.2.2.2.2 (by decide) (by decide) rfl rfl (fun d => rX12_does hkb  n sl SH FI FL FR hok) (fun v23 n23 sl23 SH23 FI23 FL23 FR23 _ hC => ?_))
          obtain ⟨rfl, hC⟩ := hC; cases hC
          show pw _ _ _ _ _ _ _ 299 _ [.int (fX12_does  SH FI FL FR)] _ _
          refine pw_ifeq (tgt := 306) (aX12_meansOperand 159 rfl) (by decide) (fun b24 => ?_) (fun b24 => ?_)
          · skip
            refine pw_aloadn (aX12_meansOperand 162 rfl) rfl ?_
            refine pw_aloadn (aX12_meansOperand 163 rfl) rfl ?_
            refine pw_getr (v := .long (FL 121 39)) (aX12_meansOperand 164 rfl) uf_RX12_252 un_RX12_252 rfl ?_
            refine pw_callV (Bs := [.long (FL 121 39)]) (rest := []) (aX12_meansOperand 165 rfl) um_RX12_699 ujX12_value wc_RX12_699.2.2.2.2 (by decide) (by decide) rfl rfl (fun d => rX12_value hkb (FL 121 39) n sl SH FI FL FR hok) (fun v25 n25 sl25 SH25 FI25 FL25 FR25 hok25 _ => ?_)
            show pw _ _ _ _ _ _ _ 314 _ [] _ _
            refine pw_aloadn (aX12_meansOperand 166 rfl) rfl ?_
            refine pw_callV (Bs := []) (rest := []) (aX12_meansOperand 167 rfl) um_RX12_712 ujX12_meansFinished wc_RX12_712.2.2.2.2 (by decide) (by decide) rfl rfl (fun d => rX12_meansFinished hkb  n25 sl25 SH25 FI25 FL25 FR25 hok25) (fun v26 n26 sl26 SH26 FI26 FL26 FR26 hok26 _ => ?_)
            show pw _ _ _ _ _ _ _ 318 _ [] _ _
            refine pw_iconst (v := (1 : Int32)) (aX12_meansOperand 168 rfl) rfl ?_
            exact pw_iret (aX12_meansOperand 169 rfl) hok26
          · skip
            refine pw_aloadn (aX12_meansOperand 160 rfl) rfl ?_
            refine pw_callV (Bs := []) (rest := []) (aX12_meansOperand 161 rfl) um_RX12_709 ujX12_bases wc_RX12_709.2.2.2.2 (by decide) (by decide) rfl rfl (fun d => rX12_bases hkb  n sl SH FI FL FR hok) (fun v27 n27 sl27 SH27 FI27 FL27 FR27 hok27 _ => ?_)
            show pw _ _ _ _ _ _ _ 306 _ [] _ _
            refine pw_aloadn (aX12_meansOperand 162 rfl) rfl ?_
            refine pw_aloadn (aX12_meansOperand 163 rfl) rfl ?_
            refine pw_getr (v := .long (FL27 121 39)) (aX12_meansOperand 164 rfl) uf_RX12_252 un_RX12_252 rfl ?_
            refine pw_callV (Bs := [.long (FL27 121 39)]) (rest := []) (aX12_meansOperand 165 rfl) um_RX12_699 ujX12_value wc_RX12_699.2.2.2.2 (by decide) (by decide) rfl rfl (fun d => rX12_value hkb (FL27 121 39) n27 sl27 SH27 FI27 FL27 FR27 hok27) (fun v28 n28 sl28 SH28 FI28 FL28 FR28 hok28 _ => ?_)
            show pw _ _ _ _ _ _ _ 314 _ [] _ _
            refine pw_aloadn (aX12_meansOperand 166 rfl) rfl ?_
            refine pw_callV (Bs := []) (rest := []) (aX12_meansOperand 167 rfl) um_RX12_712 ujX12_meansFinished wc_RX12_712.2.2.2.2 (by decide) (by decide) rfl rfl (fun d => rX12_meansFinished hkb  n28 sl28 SH28 FI28 FL28 FR28 hok28) (fun v29 n29 sl29 SH29 FI29 FL29 FR29 hok29 _ => ?_)
            show pw _ _ _ _ _ _ _ 318 _ [] _ _
            refine pw_iconst (v := (1 : Int32)) (aX12_meansOperand 168 rfl) rfl ?_
            exact pw_iret (aX12_meansOperand 169 rfl) hok29
set_option maxHeartbeats 4000000 in
set_option maxRecDepth 100000 in
theorem rX12_meansOperand_46 {sk : xK} {base N d : Nat}  (hkb : x_kb sk base)  (l1i : Int32) (l2l : Int64)  (n sl : Nat) (SH : Nat → Nat × Nat) (FI : Nat → Nat → Int32) (FL : Nat → Nat → Int64) (FR : Nat → Nat → Option Nat) (hok : pk n SH FR)   : pw pj_I sk base N d none 261 46 [(0, .ref (base + 121)), (1, .int (l1i)), (2, .long (l2l))] [] (n, sl, SH, FI, FL, FR) (RX12_meansOperand_46   l1i l2l n sl SH FI FL FR) := by
  unfold RX12_meansOperand_46
  refine pw_aloadn (aX12_meansOperand 26 rfl) rfl ?_
  refine pw_bipush (v := (7 : Int32)) (aX12_meansOperand 27 rfl) rfl ?_
  refine pw_cf (pw_callV (Bs := [.int ((7 : Int32))]) (rest := []) (aX12_meansOperand 28 rfl) um_RX12_694 ujX12_keepsWord wc_RX12_694.2.2.2.2 (by decide) (by decide) rfl rfl (fun d => rX12_keepsWord hkb ((7 : Int32)) n sl SH FI FL FR hok) (fun v0 n0 sl0 SH0 FI0 FL0 FR0 _ hC => ?_))
  obtain ⟨rfl, hC⟩ := hC; cases hC
  show pw _ _ _ _ _ _ _ 52 _ [.int (fX12_keepsWord ((7 : Int32)) SH FI FL FR)] _ _
  refine pw_ifeq (tgt := 113) (aX12_meansOperand 29 rfl) (by decide) (fun b1 => ?_) (fun b1 => ?_)
  · skip
    refine pw_aloadn (aX12_meansOperand 61 rfl) rfl ?_
    refine pw_aloadn (aX12_meansOperand 62 rfl) rfl ?_
    refine pw_getr (v := .int (FI 121 92)) (aX12_meansOperand 63 rfl) uf_RX12_656 un_RX12_656 rfl ?_
    refine pw_iconst (v := (1 : Int32)) (aX12_meansOperand 64 rfl) rfl ?_
    refine pw_iadd (aX12_meansOperand 65 rfl) ?_
    refine pw_putri (aX12_meansOperand 66 rfl) uf_RX12_656 (fun _ _ _ => rfl) (fun t3 => ?_)
    refine pw_iloadn (aX12_meansOperand 67 rfl) rfl ?_
    refine pw_iconst (v := (5 : Int32)) (aX12_meansOperand 68 rfl) rfl ?_
    refine pw_icne (tgt := 144) (aX12_meansOperand 69 rfl) (by decide) (fun b3 => ?_) (fun b3 => ?_)
    · skip
      refine pw_lloadn (aX12_meansOperand 70 rfl) rfl ?_
      refine pw_ldc2 (v := (40 : Int64)) (aX12_meansOperand 71 rfl) uk_RX12_697 ?_
      refine pw_lcne (tgt := 144) (aX12_meansOperand 72 rfl) (aX12_meansOperand 73 rfl) (by decide) (fun b4 => ?_) (fun b4 => ?_)
      · skip
        refine pw_aloadn (aX12_meansOperand 74 rfl) rfl ?_
        refine pw_iconst (v := (0 : Int32)) (aX12_meansOperand 75 rfl) rfl ?_
        refine pw_iconst (v := (-1 : Int32)) (aX12_meansOperand 76 rfl) rfl ?_
        refine pw_callV (Bs := [.int ((0 : Int32)), .int ((-1 : Int32))]) (rest := []) (aX12_meansOperand 77 rfl) um_RX12_580 ujX12_later wc_RX12_580.2.2.2.2 (by decide) (by decide) rfl rfl (fun d => rX12_later hkb ((0 : Int32)) ((-1 : Int32)) n sl SH (h_up FI 121 92 ((FI 121 92) + ((1 : Int32)))) FL FR hok) (fun v5 n5 sl5 SH5 FI5 FL5 FR5 hok5 _ => ?_)
        show pw _ _ _ _ _ _ _ 142 _ [] _ _
        refine pw_iconst (v := (0 : Int32)) (aX12_meansOperand 78 rfl) rfl ?_
        exact pw_iret (aX12_meansOperand 79 rfl) hok5
      · skip
        exact pw_Li (L2 := [(0, .ref (base + 121)), (1, .int (l1i)), (2, .long (l2l))]) [0, 1, 2] (rX12_meansOperand_144 hkb  (l1i) (l2l) n sl SH (h_up FI 121 92 ((FI 121 92) + ((1 : Int32)))) FL FR hok  ) ⟨rfl, rfl, rfl, trivial⟩
    · skip
      exact pw_Li (L2 := [(0, .ref (base + 121)), (1, .int (l1i)), (2, .long (l2l))]) [0, 1, 2] (rX12_meansOperand_144 hkb  (l1i) (l2l) n sl SH (h_up FI 121 92 ((FI 121 92) + ((1 : Int32)))) FL FR hok  ) ⟨rfl, rfl, rfl, trivial⟩
  · skip
    exact pw_Li (L2 := [(0, .ref (base + 121)), (1, .int (l1i)), (2, .long (l2l))]) [0, 1, 2] (rX12_meansOperand_55 hkb  (l1i) (l2l) n sl SH FI FL FR hok  ) ⟨rfl, rfl, rfl, trivial⟩
set_option maxHeartbeats 4000000 in
set_option maxRecDepth 100000 in
theorem rX12_meansOperand {sk : xK} {base N d : Nat} (hkb : x_kb sk base)  (n sl : Nat) (SH : Nat → Nat × Nat) (FI : Nat → Nat → Int32) (FL : Nat → Nat → Int64) (FR : Nat → Nat → Option Nat) (hok : pk n SH FR)  : pw pj_I sk base N d none 261 0 [(0, .ref (base + 121))] [] (n, sl, SH, FI, FL, FR) (RX12_meansOperand  n sl SH FI FL FR) := by
  unfold RX12_meansOperand
  refine pw_aloadn (aX12_meansOperand 0 rfl) rfl ?_
  refine pw_getr (v := .ref (base + 152)) (aX12_meansOperand 1 rfl) uf_RX12_114 un_RX12_114 (congrArg (fun r => va_rf (h_rf base r)) (q121_65 (hok).2.1)) ?_
  refine pw_aloadn (aX12_meansOperand 2 rfl) rfl ?_
  refine pw_getr (v := .int (FI 121 92)) (aX12_meansOperand 3 rfl) uf_RX12_656 un_RX12_656 rfl ?_
  refine pw_ialdr (c := 152) (ix := (FI 121 92).toInt.toNat) (aX12_meansOperand 4 rfl) rfl (fun _ => ?_)
  refine pw_istoren (L2 := [(1, .int (FI 152 (FI 121 92).toInt.toNat)), (0, .ref (base + 121))]) (aX12_meansOperand 5 rfl) rfl ?_
  refine pw_aloadn (aX12_meansOperand 6 rfl) rfl ?_
  refine pw_getr (v := .ref (base + 153)) (aX12_meansOperand 7 rfl) uf_RX12_117 un_RX12_117 (congrArg (fun r => va_rf (h_rf base r)) (q121_66 (hok).2.1)) ?_
  refine pw_aloadn (aX12_meansOperand 8 rfl) rfl ?_
  refine pw_getr (v := .int (FI 121 92)) (aX12_meansOperand 9 rfl) uf_RX12_656 un_RX12_656 rfl ?_
  refine pw_laldr (c := 153) (ix := (FI 121 92).toInt.toNat) (aX12_meansOperand 10 rfl) rfl (fun _ => ?_)
  refine pw_lstoren (L2 := [(2, .long (FL 153 (FI 121 92).toInt.toNat)), (1, .int (FI 152 (FI 121 92).toInt.toNat)), (0, .ref (base + 121))]) (aX12_meansOperand 11 rfl) rfl ?_
  refine pw_iloadn (aX12_meansOperand 12 rfl) rfl ?_
  refine pw_iconst (v := (4 : Int32)) (aX12_meansOperand 13 rfl) rfl ?_
  refine pw_iceq (tgt := 55) (aX12_meansOperand 14 rfl) (by decide) (fun b0 => ?_) (fun b0 => ?_)
  · skip
    exact pw_Li (L2 := [(0, .ref (base + 121)), (1, .int (FI 152 (FI 121 92).toInt.toNat)), (2, .long (FL 153 (FI 121 92).toInt.toNat))]) [2, 1, 0] (rX12_meansOperand_55 hkb  (FI 152 (FI 121 92).toInt.toNat) (FL 153 (FI 121 92).toInt.toNat) n sl SH FI FL FR hok  ) ⟨rfl, rfl, rfl, trivial⟩
  · skip
    refine pw_iloadn (aX12_meansOperand 15 rfl) rfl ?_
    refine pw_iconst (v := (5 : Int32)) (aX12_meansOperand 16 rfl) rfl ?_
    refine pw_icne (tgt := 46) (aX12_meansOperand 17 rfl) (by decide) (fun b1 => ?_) (fun b1 => ?_)
    · skip
      refine pw_lloadn (aX12_meansOperand 18 rfl) rfl ?_
      refine pw_ldc2 (v := (45 : Int64)) (aX12_meansOperand 19 rfl) uk_RX12_651 ?_
      refine pw_lceq (tgt := 55) (aX12_meansOperand 20 rfl) (aX12_meansOperand 21 rfl) (by decide) (fun b2 => ?_) (fun b2 => ?_)
      · skip
        exact pw_Li (L2 := [(0, .ref (base + 121)), (1, .int (FI 152 (FI 121 92).toInt.toNat)), (2, .long (FL 153 (FI 121 92).toInt.toNat))]) [2, 1, 0] (rX12_meansOperand_55 hkb  (FI 152 (FI 121 92).toInt.toNat) (FL 153 (FI 121 92).toInt.toNat) n sl SH FI FL FR hok  ) ⟨rfl, rfl, rfl, trivial⟩
      · skip
        refine pw_lloadn (aX12_meansOperand 22 rfl) rfl ?_
        refine pw_ldc2 (v := (126 : Int64)) (aX12_meansOperand 23 rfl) uk_RX12_692 ?_
        refine pw_lceq (tgt := 55) (aX12_meansOperand 24 rfl) (aX12_meansOperand 25 rfl) (by decide) (fun b3 => ?_) (fun b3 => ?_)
        · skip
          exact pw_Li (L2 := [(0, .ref (base + 121)), (1, .int (FI 152 (FI 121 92).toInt.toNat)), (2, .long (FL 153 (FI 121 92).toInt.toNat))]) [2, 1, 0] (rX12_meansOperand_55 hkb  (FI 152 (FI 121 92).toInt.toNat) (FL 153 (FI 121 92).toInt.toNat) n sl SH FI FL FR hok  ) ⟨rfl, rfl, rfl, trivial⟩
        · skip
          exact pw_Li (L2 := [(0, .ref (base + 121)), (1, .int (FI 152 (FI 121 92).toInt.toNat)), (2, .long (FL 153 (FI 121 92).toInt.toNat))]) [2, 1, 0] (rX12_meansOperand_46 hkb  (FI 152 (FI 121 92).toInt.toNat) (FL 153 (FI 121 92).toInt.toNat) n sl SH FI FL FR hok  ) ⟨rfl, rfl, rfl, trivial⟩
    · skip
      exact pw_Li (L2 := [(0, .ref (base + 121)), (1, .int (FI 152 (FI 121 92).toInt.toNat)), (2, .long (FL 153 (FI 121 92).toInt.toNat))]) [2, 1, 0] (rX12_meansOperand_46 hkb  (FI 152 (FI 121 92).toInt.toNat) (FL 153 (FI 121 92).toInt.toNat) n sl SH FI FL FR hok  ) ⟨rfl, rfl, rfl, trivial⟩
set_option maxHeartbeats 4000000 in
set_option maxRecDepth 100000 in
theorem rX12_meansOperator_64 {sk : xK} {base N d : Nat}  (hkb : x_kb sk base)  (l2l : Int64) (l1i : Int32) (l4i : Int32) (n sl : Nat) (SH : Nat → Nat × Nat) (FI : Nat → Nat → Int32) (FL : Nat → Nat → Int64) (FR : Nat → Nat → Option Nat) (hok : pk n SH FR)   : pw pj_I sk base N d none 267 64 [(0, .ref (base + 121)), (1, .int (l1i)), (2, .long (l2l)), (4, .int (l4i))] [] (n, sl, SH, FI, FL, FR) (RX12_meansOperator_64   l2l n sl SH FI FL FR) := by
  unfold RX12_meansOperator_64
  refine pw_aloadn (aX12_meansOperator 36 rfl) rfl ?_
  refine pw_lloadn (aX12_meansOperator 37 rfl) rfl ?_
  refine pw_ldc2 (v := (43 : Int64)) (aX12_meansOperator 38 rfl) uk_RX12_605 ?_
  refine pw_lcne (tgt := 78) (aX12_meansOperator 39 rfl) (aX12_meansOperator 40 rfl) (by decide) (fun b0 => ?_) (fun b0 => ?_)
  · skip
    refine pw_bipush (v := (34 : Int32)) (aX12_meansOperator 41 rfl) rfl ?_
    refine pw_goto (tgt := 80) (aX12_meansOperator 42 rfl) (by decide) ?_
    refine pw_bipush (v := (6 : Int32)) (aX12_meansOperator 44 rfl) rfl ?_
    refine pw_callV (Bs := [.int ((34 : Int32)), .int ((6 : Int32))]) (rest := []) (aX12_meansOperator 45 rfl) um_RX12_718 ujX12_meansBinary wc_RX12_718.2.2.2.2 (by decide) (by decide) rfl rfl (fun d => rX12_meansBinary hkb ((34 : Int32)) ((6 : Int32)) n sl SH FI FL FR hok) (fun v1 n1 sl1 SH1 FI1 FL1 FR1 hok1 _ => ?_)
    show pw _ _ _ _ _ _ _ 85 _ [.int (v1)] _ _
    exact pw_iret (aX12_meansOperator 46 rfl) hok1
  · skip
    refine pw_bipush (v := (28 : Int32)) (aX12_meansOperator 43 rfl) rfl ?_
    refine pw_bipush (v := (6 : Int32)) (aX12_meansOperator 44 rfl) rfl ?_
    refine pw_callV (Bs := [.int ((28 : Int32)), .int ((6 : Int32))]) (rest := []) (aX12_meansOperator 45 rfl) um_RX12_718 ujX12_meansBinary wc_RX12_718.2.2.2.2 (by decide) (by decide) rfl rfl (fun d => rX12_meansBinary hkb ((28 : Int32)) ((6 : Int32)) n sl SH FI FL FR hok) (fun v2 n2 sl2 SH2 FI2 FL2 FR2 hok2 _ => ?_)
    show pw _ _ _ _ _ _ _ 85 _ [.int (v2)] _ _
    exact pw_iret (aX12_meansOperator 46 rfl) hok2
set_option maxHeartbeats 4000000 in
set_option maxRecDepth 100000 in
theorem rX12_meansOperator_383 {sk : xK} {base N d : Nat}  (hkb : x_kb sk base)   (l1i : Int32) (l2l : Int64) (l4i : Int32) (n sl : Nat) (SH : Nat → Nat × Nat) (FI : Nat → Nat → Int32) (FL : Nat → Nat → Int64) (FR : Nat → Nat → Option Nat) (hok : pk n SH FR)   : pw pj_I sk base N d none 267 383 [(0, .ref (base + 121)), (1, .int (l1i)), (2, .long (l2l)), (4, .int (l4i))] [] (n, sl, SH, FI, FL, FR) (RX12_meansOperator_383    n sl SH FI FL FR) := by
  unfold RX12_meansOperator_383
  refine pw_aloadn (aX12_meansOperator 215 rfl) rfl ?_
  refine pw_bipush (v := (41 : Int32)) (aX12_meansOperator 216 rfl) rfl ?_
  refine pw_cf (pw_callV (Bs := [.int ((41 : Int32))]) (rest := []) (aX12_meansOperator 217 rfl) um_RX12_669 ujX12_keepsSign wc_RX12_669.2.2.2.2 (by decide) (by decide) rfl rfl (fun d => rX12_keepsSign hkb ((41 : Int32)) n sl SH FI FL FR hok) (fun v0 n0 sl0 SH0 FI0 FL0 FR0 _ hC => ?_))
  obtain ⟨rfl, hC⟩ := hC; cases hC
  show pw _ _ _ _ _ _ _ 389 _ [.int (fX12_keepsSign ((41 : Int32)) SH FI FL FR)] _ _
  refine pw_ifeq (tgt := 431) (aX12_meansOperator 218 rfl) (by decide) (fun b1 => ?_) (fun b1 => ?_)
  · skip
    refine pw_iconst (v := (0 : Int32)) (aX12_meansOperator 242 rfl) rfl ?_
    exact pw_iret (aX12_meansOperator 243 rfl) hok
  · skip
    refine pw_aloadn (aX12_meansOperator 219 rfl) rfl ?_
    refine pw_cf (pw_callV (Bs := []) (rest := []) (aX12_meansOperator 220 rfl) um_RX12_559 ujX12_tops wc_RX12_559.2.2.2.2 (by decide) (by decide) rfl rfl (fun d => rX12_tops hkb  n sl SH FI FL FR hok) (fun v2 n2 sl2 SH2 FI2 FL2 FR2 _ hC => ?_))
    obtain ⟨rfl, hC⟩ := hC; cases hC
    show pw _ _ _ _ _ _ _ 396 _ [.int (fX12_tops  SH FI FL FR)] _ _
    refine pw_iconst (v := (-1 : Int32)) (aX12_meansOperator 221 rfl) rfl ?_
    refine pw_icne (tgt := 431) (aX12_meansOperator 222 rfl) (by decide) (fun b3 => ?_) (fun b3 => ?_)
    · skip
      refine pw_aloadn (aX12_meansOperator 223 rfl) rfl ?_
      refine pw_aloadn (aX12_meansOperator 224 rfl) rfl ?_
      refine pw_getr (v := .int (FI 121 90)) (aX12_meansOperator 225 rfl) uf_RX12_556 un_RX12_556 rfl ?_
      refine pw_iconst (v := (1 : Int32)) (aX12_meansOperator 226 rfl) rfl ?_
      refine pw_isub (aX12_meansOperator 227 rfl) ?_
      refine pw_putri (aX12_meansOperator 228 rfl) uf_RX12_556 (fun _ _ _ => rfl) (fun t5 => ?_)
      refine pw_aloadn (aX12_meansOperator 229 rfl) rfl ?_
      refine pw_aloadn (aX12_meansOperator 230 rfl) rfl ?_
      refine pw_getr (v := .int (FI 121 92)) (aX12_meansOperator 231 rfl) uf_RX12_656 un_RX12_656 rfl ?_
      refine pw_iconst (v := (1 : Int32)) (aX12_meansOperator 232 rfl) rfl ?_
      refine pw_iadd (aX12_meansOperator 233 rfl) ?_
      refine pw_putri (aX12_meansOperator 234 rfl) uf_RX12_656 (fun _ _ _ => rfl) (fun t6 => ?_)
      refine pw_aloadn (aX12_meansOperator 235 rfl) rfl ?_
      refine pw_callV (Bs := []) (rest := []) (aX12_meansOperator 236 rfl) um_RX12_712 ujX12_meansFinished wc_RX12_712.2.2.2.2 (by decide) (by decide) rfl rfl (fun d => rX12_meansFinished hkb  n sl SH (h_up (h_up FI 121 90 ((FI 121 90) - ((1 : Int32)))) 121 92 ((FI 121 92) + ((1 : Int32)))) FL FR hok) (fun v6 n6 sl6 SH6 FI6 FL6 FR6 hok6 _ => ?_)
      show pw _ _ _ _ _ _ _ 424 _ [] _ _
      refine pw_aloadn (aX12_meansOperator 237 rfl) rfl ?_
      refine pw_iconst (v := (1 : Int32)) (aX12_meansOperator 238 rfl) rfl ?_
      refine pw_putri (aX12_meansOperator 239 rfl) uf_RX12_577 (fun _ _ _ => rfl) (fun t8 => ?_)
      refine pw_iconst (v := (1 : Int32)) (aX12_meansOperator 240 rfl) rfl ?_
      exact pw_iret (aX12_meansOperator 241 rfl) hok6
    · skip
      refine pw_iconst (v := (0 : Int32)) (aX12_meansOperator 242 rfl) rfl ?_
      exact pw_iret (aX12_meansOperator 243 rfl) hok
set_option maxHeartbeats 4000000 in
set_option maxRecDepth 100000 in
theorem rX12_meansOperator_256 {sk : xK} {base N d : Nat}  (hkb : x_kb sk base)  (s0i : Int32) (s1i : Int32) (l1i : Int32) (l2l : Int64) (l4i : Int32) (n sl : Nat) (SH : Nat → Nat × Nat) (FI : Nat → Nat → Int32) (FL : Nat → Nat → Int64) (FR : Nat → Nat → Option Nat) (hok : pk n SH FR)   : pw pj_I sk base N d none 267 256 [(0, .ref (base + 121)), (1, .int (l1i)), (2, .long (l2l)), (4, .int (l4i))] [.int (s0i), .int (s1i), .ref (base + 175)] (n, sl, SH, FI, FL, FR) (RX12_meansOperator_256   s0i s1i n sl SH FI FL FR) := by
  unfold RX12_meansOperator_256
  refine pw_zastr (c := 175) (ix := (s1i).toInt.toNat) (aX12_meansOperator 143 rfl) rfl (fun _ => ?_)
  refine pw_aloadn (aX12_meansOperator 144 rfl) rfl ?_
  refine pw_aloadn (aX12_meansOperator 145 rfl) rfl ?_
  refine pw_getr (v := .int (FI 121 104)) (aX12_meansOperator 146 rfl) uf_RX12_680 un_RX12_680 rfl ?_
  refine pw_ifeq (tgt := 283) (aX12_meansOperator 147 rfl) (by decide) (fun b0 => ?_) (fun b0 => ?_)
  · skip
    refine pw_iconst (v := (0 : Int32)) (aX12_meansOperator 158 rfl) rfl ?_
    refine pw_putri (aX12_meansOperator 159 rfl) uf_RX12_680 (fun _ _ _ => rfl) (fun t2 => ?_)
    refine pw_aloadn (aX12_meansOperator 160 rfl) rfl ?_
    refine pw_aloadn (aX12_meansOperator 161 rfl) rfl ?_
    refine pw_getr (v := .int (FI 121 92)) (aX12_meansOperator 162 rfl) uf_RX12_656 un_RX12_656 rfl ?_
    refine pw_iconst (v := (1 : Int32)) (aX12_meansOperator 163 rfl) rfl ?_
    refine pw_iadd (aX12_meansOperator 164 rfl) ?_
    refine pw_putri (aX12_meansOperator 165 rfl) uf_RX12_656 (fun _ _ _ => rfl) (fun t3 => ?_)
    refine pw_iconst (v := (1 : Int32)) (aX12_meansOperator 166 rfl) rfl ?_
    exact pw_iret (aX12_meansOperator 167 rfl) hok
  · skip
    refine pw_aloadn (aX12_meansOperator 148 rfl) rfl ?_
    refine pw_getr (v := .ref (base + 173)) (aX12_meansOperator 149 rfl) uf_RX12_178 un_RX12_178 (congrArg (fun r => va_rf (h_rf base r)) (q121_100 (hok).2.1)) ?_
    refine pw_aloadn (aX12_meansOperator 150 rfl) rfl ?_
    refine pw_getr (v := .int (FI 121 101)) (aX12_meansOperator 151 rfl) uf_RX12_683 un_RX12_683 rfl ?_
    refine pw_laldr (c := 173) (ix := (FI 121 101).toInt.toNat) (aX12_meansOperator 152 rfl) rfl (fun _ => ?_)
    refine pw_lconst (v := (0 : Int64)) (aX12_meansOperator 153 rfl) rfl ?_
    refine pw_lceq (tgt := 283) (aX12_meansOperator 154 rfl) (aX12_meansOperator 155 rfl) (by decide) (fun b3 => ?_) (fun b3 => ?_)
    · skip
      refine pw_iconst (v := (0 : Int32)) (aX12_meansOperator 158 rfl) rfl ?_
      refine pw_putri (aX12_meansOperator 159 rfl) uf_RX12_680 (fun _ _ _ => rfl) (fun t5 => ?_)
      refine pw_aloadn (aX12_meansOperator 160 rfl) rfl ?_
      refine pw_aloadn (aX12_meansOperator 161 rfl) rfl ?_
      refine pw_getr (v := .int (FI 121 92)) (aX12_meansOperator 162 rfl) uf_RX12_656 un_RX12_656 rfl ?_
      refine pw_iconst (v := (1 : Int32)) (aX12_meansOperator 163 rfl) rfl ?_
      refine pw_iadd (aX12_meansOperator 164 rfl) ?_
      refine pw_putri (aX12_meansOperator 165 rfl) uf_RX12_656 (fun _ _ _ => rfl) (fun t6 => ?_)
      refine pw_iconst (v := (1 : Int32)) (aX12_meansOperator 166 rfl) rfl ?_
      exact pw_iret (aX12_meansOperator 167 rfl) hok
    · skip
      refine pw_iconst (v := (1 : Int32)) (aX12_meansOperator 156 rfl) rfl ?_
      refine pw_goto (tgt := 284) (aX12_meansOperator 157 rfl) (by decide) ?_
      refine pw_putri (aX12_meansOperator 159 rfl) uf_RX12_680 (fun _ _ _ => rfl) (fun t7 => ?_)
      refine pw_aloadn (aX12_meansOperator 160 rfl) rfl ?_
      refine pw_aloadn (aX12_meansOperator 161 rfl) rfl ?_
      refine pw_getr (v := .int (FI 121 92)) (aX12_meansOperator 162 rfl) uf_RX12_656 un_RX12_656 rfl ?_
      refine pw_iconst (v := (1 : Int32)) (aX12_meansOperator 163 rfl) rfl ?_
      refine pw_iadd (aX12_meansOperator 164 rfl) ?_
      refine pw_putri (aX12_meansOperator 165 rfl) uf_RX12_656 (fun _ _ _ => rfl) (fun t8 => ?_)
      refine pw_iconst (v := (1 : Int32)) (aX12_meansOperator 166 rfl) rfl ?_
      exact pw_iret (aX12_meansOperator 167 rfl) hok
set_option maxHeartbeats 4000000 in
set_option maxRecDepth 100000 in
theorem rX12_meansOperator_86 {sk : xK} {base N d : Nat}  (hkb : x_kb sk base)  (l1i : Int32) (l2l : Int64) (l4i : Int32) (n sl : Nat) (SH : Nat → Nat × Nat) (FI : Nat → Nat → Int32) (FL : Nat → Nat → Int64) (FR : Nat → Nat → Option Nat) (hok : pk n SH FR)   : pw pj_I sk base N d none 267 86 [(0, .ref (base + 121)), (1, .int (l1i)), (2, .long (l2l)), (4, .int (l4i))] [] (n, sl, SH, FI, FL, FR) (RX12_meansOperator_86   l1i l2l n sl SH FI FL FR) := by
  unfold RX12_meansOperator_86
  refine pw_aloadn (aX12_meansOperator 47 rfl) rfl ?_
  refine pw_iloadn (aX12_meansOperator 48 rfl) rfl ?_
  refine pw_lloadn (aX12_meansOperator 49 rfl) rfl ?_
  refine pw_cf (pw_callV (Bs := [.int (l1i), .long (l2l)]) (rest := []) (aX12_meansOperator 50 rfl) um_RX12_617 ujX12_shifts wc_RX12_617.2.2.2.2 (by decide) (by decide) rfl rfl (fun d => rX12_shifts hkb (l1i) (l2l) n sl SH FI FL FR hok) (fun v0 n0 sl0 SH0 FI0 FL0 FR0 _ hC => ?_))
  obtain ⟨rfl, hC⟩ := hC; cases hC
  show pw _ _ _ _ _ _ _ 92 _ [.int (fX12_shifts (l1i) (l2l) SH FI FL FR)] _ _
  refine pw_istore (L2 := [(4, .int (fX12_shifts (l1i) (l2l) SH FI FL FR)), (0, .ref (base + 121)), (1, .int (l1i)), (2, .long (l2l))]) (aX12_meansOperator 51 rfl) rfl ?_
  refine pw_iload (aX12_meansOperator 52 rfl) rfl ?_
  refine pw_iconst (v := (-1 : Int32)) (aX12_meansOperator 53 rfl) rfl ?_
  refine pw_iceq (tgt := 108) (aX12_meansOperator 54 rfl) (by decide) (fun b1 => ?_) (fun b1 => ?_)
  · skip
    refine pw_aloadn (aX12_meansOperator 60 rfl) rfl ?_
    refine pw_iloadn (aX12_meansOperator 61 rfl) rfl ?_
    refine pw_lloadn (aX12_meansOperator 62 rfl) rfl ?_
    refine pw_cf (pw_callV (Bs := [.int (l1i), .long (l2l)]) (rest := []) (aX12_meansOperator 63 rfl) um_RX12_620 ujX12_compares wc_RX12_620.2.2.2.2 (by decide) (by decide) rfl rfl (fun d => rX12_compares hkb (l1i) (l2l) n sl SH FI FL FR hok) (fun v2 n2 sl2 SH2 FI2 FL2 FR2 _ hC => ?_))
    obtain ⟨rfl, hC⟩ := hC; cases hC
    show pw _ _ _ _ _ _ _ 114 _ [.int (fX12_compares (l1i) (l2l) SH FI FL FR)] _ _
    refine pw_istore (L2 := [(4, .int (fX12_compares (l1i) (l2l) SH FI FL FR)), (0, .ref (base + 121)), (1, .int (l1i)), (2, .long (l2l))]) (aX12_meansOperator 64 rfl) rfl ?_
    refine pw_iload (aX12_meansOperator 65 rfl) rfl ?_
    refine pw_iconst (v := (-1 : Int32)) (aX12_meansOperator 66 rfl) rfl ?_
    refine pw_iceq (tgt := 130) (aX12_meansOperator 67 rfl) (by decide) (fun b3 => ?_) (fun b3 => ?_)
    · skip
      refine pw_aloadn (aX12_meansOperator 73 rfl) rfl ?_
      refine pw_bipush (v := (38 : Int32)) (aX12_meansOperator 74 rfl) rfl ?_
      refine pw_cf (pw_callV (Bs := [.int ((38 : Int32))]) (rest := []) (aX12_meansOperator 75 rfl) um_RX12_669 ujX12_keepsSign wc_RX12_669.2.2.2.2 (by decide) (by decide) rfl rfl (fun d => rX12_keepsSign hkb ((38 : Int32)) n sl SH FI FL FR hok) (fun v4 n4 sl4 SH4 FI4 FL4 FR4 _ hC => ?_))
      obtain ⟨rfl, hC⟩ := hC; cases hC
      show pw _ _ _ _ _ _ _ 136 _ [.int (fX12_keepsSign ((38 : Int32)) SH FI FL FR)] _ _
      refine pw_ifeq (tgt := 147) (aX12_meansOperator 76 rfl) (by decide) (fun b5 => ?_) (fun b5 => ?_)
      · skip
        refine pw_aloadn (aX12_meansOperator 82 rfl) rfl ?_
        refine pw_bipush (v := (94 : Int32)) (aX12_meansOperator 83 rfl) rfl ?_
        refine pw_cf (pw_callV (Bs := [.int ((94 : Int32))]) (rest := []) (aX12_meansOperator 84 rfl) um_RX12_669 ujX12_keepsSign wc_RX12_669.2.2.2.2 (by decide) (by decide) rfl rfl (fun d => rX12_keepsSign hkb ((94 : Int32)) n sl SH FI FL FR hok) (fun v6 n6 sl6 SH6 FI6 FL6 FR6 _ hC => ?_))
        obtain ⟨rfl, hC⟩ := hC; cases hC
        show pw _ _ _ _ _ _ _ 153 _ [.int (fX12_keepsSign ((94 : Int32)) SH FI FL FR)] _ _
        refine pw_ifeq (tgt := 164) (aX12_meansOperator 85 rfl) (by decide) (fun b7 => ?_) (fun b7 => ?_)
        · skip
          refine pw_aloadn (aX12_meansOperator 91 rfl) rfl ?_
          refine pw_bipush (v := (124 : Int32)) (aX12_meansOperator 92 rfl) rfl ?_
          refine pw_cf (pw_callV (Bs := [.int ((124 : Int32))]) (rest := []) (aX12_meansOperator 93 rfl) um_RX12_669 ujX12_keepsSign wc_RX12_669.2.2.2.2 (by decide) (by decide) rfl rfl (fun d => rX12_keepsSign hkb ((124 : Int32)) n sl SH FI FL FR hok) (fun v8 n8 sl8 SH8 FI8 FL8 FR8 _ hC => ?_))
          obtain ⟨rfl, hC⟩ := hC; cases hC
          show pw _ _ _ _ _ _ _ 170 _ [.int (fX12_keepsSign ((124 : Int32)) SH FI FL FR)] _ _
          refine pw_ifeq (tgt := 181) (aX12_meansOperator 94 rfl) (by decide) (fun b9 => ?_) (fun b9 => ?_)
          · skip
            refine pw_aloadn (aX12_meansOperator 100 rfl) rfl ?_
            refine pw_bipush (v := (63 : Int32)) (aX12_meansOperator 101 rfl) rfl ?_
            refine pw_cf (pw_callV (Bs := [.int ((63 : Int32))]) (rest := []) (aX12_meansOperator 102 rfl) um_RX12_669 ujX12_keepsSign wc_RX12_669.2.2.2.2 (by decide) (by decide) rfl rfl (fun d => rX12_keepsSign hkb ((63 : Int32)) n sl SH FI FL FR hok) (fun v10 n10 sl10 SH10 FI10 FL10 FR10 _ hC => ?_))
            obtain ⟨rfl, hC⟩ := hC; cases hC
            show pw _ _ _ _ _ _ _ 187 _ [.int (fX12_keepsSign ((63 : Int32)) SH FI FL FR)] _ _
            refine pw_ifeq (tgt := 299) (aX12_meansOperator 103 rfl) (by decide) (fun b11 => ?_) (fun b11 => ?_)
            · skip
              refine pw_aloadn (aX12_meansOperator 168 rfl) rfl ?_
              refine pw_callV (Bs := []) (rest := []) (aX12_meansOperator 169 rfl) um_RX12_721 ujX12_meansReducedAll wc_RX12_721.2.2.2.2 (by decide) (by decide) rfl rfl (fun d => rX12_meansReducedAll hkb  n sl SH FI FL FR hok) (fun v12 n12 sl12 SH12 FI12 FL12 FR12 hok12 _ => ?_)
              show pw _ _ _ _ _ _ _ 303 _ [] _ _
              refine pw_aloadn (aX12_meansOperator 170 rfl) rfl ?_
              refine pw_bipush (v := (58 : Int32)) (aX12_meansOperator 171 rfl) rfl ?_
              refine pw_cf (pw_callV (Bs := [.int ((58 : Int32))]) (rest := []) (aX12_meansOperator 172 rfl) um_RX12_669 ujX12_keepsSign wc_RX12_669.2.2.2.2 (by decide) (by decide) rfl rfl (fun d => rX12_keepsSign hkb ((58 : Int32)) n12 sl12 SH12 FI12 FL12 FR12 hok12) (fun v13 n13 sl13 SH13 FI13 FL13 FR13 _ hC => ?_))
              obtain ⟨rfl, hC⟩ := hC; cases hC
              show pw _ _ _ _ _ _ _ 309 _ [.int (fX12_keepsSign ((58 : Int32)) SH12 FI12 FL12 FR12)] _ _
              refine pw_ifeq (tgt := 383) (aX12_meansOperator 173 rfl) (by decide) (fun b14 => ?_) (fun b14 => ?_)
              · skip
                exact pw_Li (L2 := [(0, .ref (base + 121)), (1, .int (l1i)), (2, .long (l2l)), (4, .int (fX12_compares (l1i) (l2l) SH FI FL FR))]) [3, 0, 1, 2] (rX12_meansOperator_383 hkb  (l1i) (l2l) (fX12_compares (l1i) (l2l) SH FI FL FR) n12 sl12 SH12 FI12 FL12 FR12 hok12  ) ⟨rfl, rfl, rfl, rfl, trivial⟩
              · skip
                refine pw_aloadn (aX12_meansOperator 174 rfl) rfl ?_
                refine pw_cf (pw_callV (Bs := []) (rest := []) (aX12_meansOperator 175 rfl) um_RX12_559 ujX12_tops wc_RX12_559.2.2.2.2 (by decide) (by decide) rfl rfl (fun d => rX12_tops hkb  n12 sl12 SH12 FI12 FL12 FR12 hok12) (fun v15 n15 sl15 SH15 FI15 FL15 FR15 _ hC => ?_))
                obtain ⟨rfl, hC⟩ := hC; cases hC
                show pw _ _ _ _ _ _ _ 316 _ [.int (fX12_tops  SH12 FI12 FL12 FR12)] _ _
                refine pw_bipush (v := (-2 : Int32)) (aX12_meansOperator 176 rfl) rfl ?_
                refine pw_icne (tgt := 383) (aX12_meansOperator 177 rfl) (by decide) (fun b16 => ?_) (fun b16 => ?_)
                · skip
                  refine pw_aloadn (aX12_meansOperator 178 rfl) rfl ?_
                  refine pw_getr (v := .ref (base + 166)) (aX12_meansOperator 179 rfl) uf_RX12_157 un_RX12_157 (congrArg (fun r => va_rf (h_rf base r)) (q121_87 (hok12).2.1)) ?_
                  refine pw_aloadn (aX12_meansOperator 180 rfl) rfl ?_
                  refine pw_getr (v := .int (FI12 121 90)) (aX12_meansOperator 181 rfl) uf_RX12_556 un_RX12_556 rfl ?_
                  refine pw_iconst (v := (1 : Int32)) (aX12_meansOperator 182 rfl) rfl ?_
                  refine pw_isub (aX12_meansOperator 183 rfl) ?_
                  refine pw_bipush (v := (-3 : Int32)) (aX12_meansOperator 184 rfl) rfl ?_
                  refine pw_iastr (c := 166) (ix := ((FI12 121 90) - ((1 : Int32))).toInt.toNat) (aX12_meansOperator 185 rfl) rfl (fun _ => ?_)
                  refine pw_aloadn (aX12_meansOperator 186 rfl) rfl ?_
                  refine pw_aloadn (aX12_meansOperator 187 rfl) rfl ?_
                  refine pw_getr (v := .ref (base + 174)) (aX12_meansOperator 188 rfl) uf_RX12_181 un_RX12_181 (congrArg (fun r => va_rf (h_rf base r)) (q121_102 (hok12).2.1)) ?_
                  refine pw_aloadn (aX12_meansOperator 189 rfl) rfl ?_
                  refine pw_getr (v := .int (FI12 121 90)) (aX12_meansOperator 190 rfl) uf_RX12_556 un_RX12_556 rfl ?_
                  refine pw_iconst (v := (1 : Int32)) (aX12_meansOperator 191 rfl) rfl ?_
                  refine pw_isub (aX12_meansOperator 192 rfl) ?_
                  refine pw_zaldr hkb (c := 174) (ix := ((FI12 121 90) - ((1 : Int32))).toInt.toNat) (aX12_meansOperator 193 rfl) rfl (fun _ => ?_)
                  refine pw_ifeq (tgt := 367) (aX12_meansOperator 194 rfl) (by decide) (fun b17 => ?_) (fun b17 => ?_)
                  · skip
                    refine pw_iconst (v := (0 : Int32)) (aX12_meansOperator 205 rfl) rfl ?_
                    refine pw_putri (aX12_meansOperator 206 rfl) uf_RX12_680 (fun _ _ _ => rfl) (fun t19 => ?_)
                    refine pw_aloadn (aX12_meansOperator 207 rfl) rfl ?_
                    refine pw_aloadn (aX12_meansOperator 208 rfl) rfl ?_
                    refine pw_getr (v := .int (FI12 121 92)) (aX12_meansOperator 209 rfl) uf_RX12_656 un_RX12_656 rfl ?_
                    refine pw_iconst (v := (1 : Int32)) (aX12_meansOperator 210 rfl) rfl ?_
                    refine pw_iadd (aX12_meansOperator 211 rfl) ?_
                    refine pw_putri (aX12_meansOperator 212 rfl) uf_RX12_656 (fun _ _ _ => rfl) (fun t20 => ?_)
                    refine pw_iconst (v := (1 : Int32)) (aX12_meansOperator 213 rfl) rfl ?_
                    exact pw_iret (aX12_meansOperator 214 rfl) hok12
                  · skip
                    refine pw_aloadn (aX12_meansOperator 195 rfl) rfl ?_
                    refine pw_getr (v := .ref (base + 175)) (aX12_meansOperator 196 rfl) uf_RX12_184 un_RX12_184 (congrArg (fun r => va_rf (h_rf base r)) (q121_103 (hok12).2.1)) ?_
                    refine pw_aloadn (aX12_meansOperator 197 rfl) rfl ?_
                    refine pw_getr (v := .int (FI12 121 90)) (aX12_meansOperator 198 rfl) uf_RX12_556 un_RX12_556 rfl ?_
                    refine pw_iconst (v := (1 : Int32)) (aX12_meansOperator 199 rfl) rfl ?_
                    refine pw_isub (aX12_meansOperator 200 rfl) ?_
                    refine pw_zaldr hkb (c := 175) (ix := ((FI12 121 90) - ((1 : Int32))).toInt.toNat) (aX12_meansOperator 201 rfl) rfl (fun _ => ?_)
                    refine pw_ifne (tgt := 367) (aX12_meansOperator 202 rfl) (by decide) (fun b20 => ?_) (fun b20 => ?_)
                    · skip
                      refine pw_iconst (v := (1 : Int32)) (aX12_meansOperator 203 rfl) rfl ?_
                      refine pw_goto (tgt := 368) (aX12_meansOperator 204 rfl) (by decide) ?_
                      refine pw_putri (aX12_meansOperator 206 rfl) uf_RX12_680 (fun _ _ _ => rfl) (fun t22 => ?_)
                      refine pw_aloadn (aX12_meansOperator 207 rfl) rfl ?_
                      refine pw_aloadn (aX12_meansOperator 208 rfl) rfl ?_
                      refine pw_getr (v := .int (FI12 121 92)) (aX12_meansOperator 209 rfl) uf_RX12_656 un_RX12_656 rfl ?_
                      refine pw_iconst (v := (1 : Int32)) (aX12_meansOperator 210 rfl) rfl ?_
                      refine pw_iadd (aX12_meansOperator 211 rfl) ?_
                      refine pw_putri (aX12_meansOperator 212 rfl) uf_RX12_656 (fun _ _ _ => rfl) (fun t23 => ?_)
                      refine pw_iconst (v := (1 : Int32)) (aX12_meansOperator 213 rfl) rfl ?_
                      exact pw_iret (aX12_meansOperator 214 rfl) hok12
                    · skip
                      refine pw_iconst (v := (0 : Int32)) (aX12_meansOperator 205 rfl) rfl ?_
                      refine pw_putri (aX12_meansOperator 206 rfl) uf_RX12_680 (fun _ _ _ => rfl) (fun t24 => ?_)
                      refine pw_aloadn (aX12_meansOperator 207 rfl) rfl ?_
                      refine pw_aloadn (aX12_meansOperator 208 rfl) rfl ?_
                      refine pw_getr (v := .int (FI12 121 92)) (aX12_meansOperator 209 rfl) uf_RX12_656 un_RX12_656 rfl ?_
                      refine pw_iconst (v := (1 : Int32)) (aX12_meansOperator 210 rfl) rfl ?_
                      refine pw_iadd (aX12_meansOperator 211 rfl) ?_
                      refine pw_putri (aX12_meansOperator 212 rfl) uf_RX12_656 (fun _ _ _ => rfl) (fun t25 => ?_)
                      refine pw_iconst (v := (1 : Int32)) (aX12_meansOperator 213 rfl) rfl ?_
                      exact pw_iret (aX12_meansOperator 214 rfl) hok12
                · skip
                  exact pw_Li (L2 := [(0, .ref (base + 121)), (1, .int (l1i)), (2, .long (l2l)), (4, .int (fX12_compares (l1i) (l2l) SH FI FL FR))]) [3, 0, 1, 2] (rX12_meansOperator_383 hkb  (l1i) (l2l) (fX12_compares (l1i) (l2l) SH FI FL FR) n12 sl12 SH12 FI12 FL12 FR12 hok12  ) ⟨rfl, rfl, rfl, rfl, trivial⟩
            · skip
              refine pw_aloadn (aX12_meansOperator 104 rfl) rfl ?_
              refine pw_iconst (v := (1 : Int32)) (aX12_meansOperator 105 rfl) rfl ?_
              refine pw_callV (Bs := [.int ((1 : Int32))]) (rest := []) (aX12_meansOperator 106 rfl) um_RX12_715 ujX12_meansReduced wc_RX12_715.2.2.2.2 (by decide) (by decide) rfl rfl (fun d => rX12_meansReduced hkb ((1 : Int32)) n sl SH FI FL FR hok) (fun v25 n25 sl25 SH25 FI25 FL25 FR25 hok25 _ => ?_)
              show pw _ _ _ _ _ _ _ 195 _ [] _ _
              refine pw_aloadn (aX12_meansOperator 107 rfl) rfl ?_
              refine pw_aloadn (aX12_meansOperator 108 rfl) rfl ?_
              refine pw_getr (v := .int (FI25 121 101)) (aX12_meansOperator 109 rfl) uf_RX12_683 un_RX12_683 rfl ?_
              refine pw_iconst (v := (1 : Int32)) (aX12_meansOperator 110 rfl) rfl ?_
              refine pw_isub (aX12_meansOperator 111 rfl) ?_
              refine pw_putri (aX12_meansOperator 112 rfl) uf_RX12_683 (fun _ _ _ => rfl) (fun t27 => ?_)
              refine pw_aloadn (aX12_meansOperator 113 rfl) rfl ?_
              refine pw_iconst (v := (0 : Int32)) (aX12_meansOperator 114 rfl) rfl ?_
              refine pw_bipush (v := (-2 : Int32)) (aX12_meansOperator 115 rfl) rfl ?_
              refine pw_callV (Bs := [.int ((0 : Int32)), .int ((-2 : Int32))]) (rest := []) (aX12_meansOperator 116 rfl) um_RX12_580 ujX12_later wc_RX12_580.2.2.2.2 (by decide) (by decide) rfl rfl (fun d => rX12_later hkb ((0 : Int32)) ((-2 : Int32)) n25 sl25 SH25 (h_up FI25 121 101 ((FI25 121 101) - ((1 : Int32)))) FL25 FR25 hok25) (fun v27 n27 sl27 SH27 FI27 FL27 FR27 hok27 _ => ?_)
              show pw _ _ _ _ _ _ _ 212 _ [] _ _
              refine pw_aloadn (aX12_meansOperator 117 rfl) rfl ?_
              refine pw_getr (v := .ref (base + 174)) (aX12_meansOperator 118 rfl) uf_RX12_181 un_RX12_181 (congrArg (fun r => va_rf (h_rf base r)) (q121_102 (hok27).2.1)) ?_
              refine pw_aloadn (aX12_meansOperator 119 rfl) rfl ?_
              refine pw_getr (v := .int (FI27 121 90)) (aX12_meansOperator 120 rfl) uf_RX12_556 un_RX12_556 rfl ?_
              refine pw_iconst (v := (1 : Int32)) (aX12_meansOperator 121 rfl) rfl ?_
              refine pw_isub (aX12_meansOperator 122 rfl) ?_
              refine pw_aloadn (aX12_meansOperator 123 rfl) rfl ?_
              refine pw_getr (v := .int (FI27 121 104)) (aX12_meansOperator 124 rfl) uf_RX12_680 un_RX12_680 rfl ?_
              refine pw_zastr (c := 174) (ix := ((FI27 121 90) - ((1 : Int32))).toInt.toNat) (aX12_meansOperator 125 rfl) rfl (fun _ => ?_)
              refine pw_aloadn (aX12_meansOperator 126 rfl) rfl ?_
              refine pw_getr (v := .ref (base + 175)) (aX12_meansOperator 127 rfl) uf_RX12_184 un_RX12_184 (congrArg (fun r => va_rf (h_rf base r)) (q121_103 (hok27).2.1)) ?_
              refine pw_aloadn (aX12_meansOperator 128 rfl) rfl ?_
              refine pw_getr (v := .int (FI27 121 90)) (aX12_meansOperator 129 rfl) uf_RX12_556 un_RX12_556 rfl ?_
              refine pw_iconst (v := (1 : Int32)) (aX12_meansOperator 130 rfl) rfl ?_
              refine pw_isub (aX12_meansOperator 131 rfl) ?_
              refine pw_aloadn (aX12_meansOperator 132 rfl) rfl ?_
              refine pw_getr (v := .ref (base + 173)) (aX12_meansOperator 133 rfl) uf_RX12_178 un_RX12_178 (congrArg (fun r => va_rf (h_rf base r)) (q121_100 (hok27).2.1)) ?_
              refine pw_aloadn (aX12_meansOperator 134 rfl) rfl ?_
              refine pw_getr (v := .int (FI27 121 101)) (aX12_meansOperator 135 rfl) uf_RX12_683 un_RX12_683 rfl ?_
              refine pw_laldr (c := 173) (ix := (FI27 121 101).toInt.toNat) (aX12_meansOperator 136 rfl) rfl (fun _ => ?_)
              refine pw_lconst (v := (0 : Int64)) (aX12_meansOperator 137 rfl) rfl ?_
              refine pw_lceq (tgt := 255) (aX12_meansOperator 138 rfl) (aX12_meansOperator 139 rfl) (by decide) (fun b28 => ?_) (fun b28 => ?_)
              · skip
                refine pw_iconst (v := (0 : Int32)) (aX12_meansOperator 142 rfl) rfl ?_
                exact pw_Li (L2 := [(0, .ref (base + 121)), (1, .int (l1i)), (2, .long (l2l)), (4, .int (fX12_compares (l1i) (l2l) SH FI FL FR))]) [3, 0, 1, 2] (rX12_meansOperator_256 hkb  ((0 : Int32)) ((FI27 121 90) - ((1 : Int32))) (l1i) (l2l) (fX12_compares (l1i) (l2l) SH FI FL FR) n27 sl27 SH27 (h_up FI27 174 ((FI27 121 90) - ((1 : Int32))).toInt.toNat (vp_nar .boolean (FI27 121 104))) FL27 FR27 hok27  ) ⟨rfl, rfl, rfl, rfl, trivial⟩
              · skip
                refine pw_iconst (v := (1 : Int32)) (aX12_meansOperator 140 rfl) rfl ?_
                refine pw_goto (tgt := 256) (aX12_meansOperator 141 rfl) (by decide) ?_
                exact pw_Li (L2 := [(0, .ref (base + 121)), (1, .int (l1i)), (2, .long (l2l)), (4, .int (fX12_compares (l1i) (l2l) SH FI FL FR))]) [3, 0, 1, 2] (rX12_meansOperator_256 hkb  ((1 : Int32)) ((FI27 121 90) - ((1 : Int32))) (l1i) (l2l) (fX12_compares (l1i) (l2l) SH FI FL FR) n27 sl27 SH27 (h_up FI27 174 ((FI27 121 90) - ((1 : Int32))).toInt.toNat (vp_nar .boolean (FI27 121 104))) FL27 FR27 hok27  ) ⟨rfl, rfl, rfl, rfl, trivial⟩
          · skip
            refine pw_aloadn (aX12_meansOperator 95 rfl) rfl ?_
            refine pw_bipush (v := (33 : Int32)) (aX12_meansOperator 96 rfl) rfl ?_
            refine pw_iconst (v := (1 : Int32)) (aX12_meansOperator 97 rfl) rfl ?_
            refine pw_callV (Bs := [.int ((33 : Int32)), .int ((1 : Int32))]) (rest := []) (aX12_meansOperator 98 rfl) um_RX12_718 ujX12_meansBinary wc_RX12_718.2.2.2.2 (by decide) (by decide) rfl rfl (fun d => rX12_meansBinary hkb ((33 : Int32)) ((1 : Int32)) n sl SH FI FL FR hok) (fun v29 n29 sl29 SH29 FI29 FL29 FR29 hok29 _ => ?_)
            show pw _ _ _ _ _ _ _ 180 _ [.int (v29)] _ _
            exact pw_iret (aX12_meansOperator 99 rfl) hok29
        · skip
          refine pw_aloadn (aX12_meansOperator 86 rfl) rfl ?_
          refine pw_bipush (v := (39 : Int32)) (aX12_meansOperator 87 rfl) rfl ?_
          refine pw_iconst (v := (2 : Int32)) (aX12_meansOperator 88 rfl) rfl ?_
          refine pw_callV (Bs := [.int ((39 : Int32)), .int ((2 : Int32))]) (rest := []) (aX12_meansOperator 89 rfl) um_RX12_718 ujX12_meansBinary wc_RX12_718.2.2.2.2 (by decide) (by decide) rfl rfl (fun d => rX12_meansBinary hkb ((39 : Int32)) ((2 : Int32)) n sl SH FI FL FR hok) (fun v30 n30 sl30 SH30 FI30 FL30 FR30 hok30 _ => ?_)
          show pw _ _ _ _ _ _ _ 163 _ [.int (v30)] _ _
          exact pw_iret (aX12_meansOperator 90 rfl) hok30
      · skip
        refine pw_aloadn (aX12_meansOperator 77 rfl) rfl ?_
        refine pw_bipush (v := (26 : Int32)) (aX12_meansOperator 78 rfl) rfl ?_
        refine pw_iconst (v := (3 : Int32)) (aX12_meansOperator 79 rfl) rfl ?_
        refine pw_callV (Bs := [.int ((26 : Int32)), .int ((3 : Int32))]) (rest := []) (aX12_meansOperator 80 rfl) um_RX12_718 ujX12_meansBinary wc_RX12_718.2.2.2.2 (by decide) (by decide) rfl rfl (fun d => rX12_meansBinary hkb ((26 : Int32)) ((3 : Int32)) n sl SH FI FL FR hok) (fun v31 n31 sl31 SH31 FI31 FL31 FR31 hok31 _ => ?_)
        show pw _ _ _ _ _ _ _ 146 _ [.int (v31)] _ _
        exact pw_iret (aX12_meansOperator 81 rfl) hok31
    · skip
      refine pw_aloadn (aX12_meansOperator 68 rfl) rfl ?_
      refine pw_iload (aX12_meansOperator 69 rfl) rfl ?_
      refine pw_iconst (v := (4 : Int32)) (aX12_meansOperator 70 rfl) rfl ?_
      refine pw_callV (Bs := [.int (fX12_compares (l1i) (l2l) SH FI FL FR), .int ((4 : Int32))]) (rest := []) (aX12_meansOperator 71 rfl) um_RX12_718 ujX12_meansBinary wc_RX12_718.2.2.2.2 (by decide) (by decide) rfl rfl (fun d => rX12_meansBinary hkb (fX12_compares (l1i) (l2l) SH FI FL FR) ((4 : Int32)) n sl SH FI FL FR hok) (fun v32 n32 sl32 SH32 FI32 FL32 FR32 hok32 _ => ?_)
      show pw _ _ _ _ _ _ _ 129 _ [.int (v32)] _ _
      exact pw_iret (aX12_meansOperator 72 rfl) hok32
  · skip
    refine pw_aloadn (aX12_meansOperator 55 rfl) rfl ?_
    refine pw_iload (aX12_meansOperator 56 rfl) rfl ?_
    refine pw_iconst (v := (5 : Int32)) (aX12_meansOperator 57 rfl) rfl ?_
    refine pw_callV (Bs := [.int (fX12_shifts (l1i) (l2l) SH FI FL FR), .int ((5 : Int32))]) (rest := []) (aX12_meansOperator 58 rfl) um_RX12_718 ujX12_meansBinary wc_RX12_718.2.2.2.2 (by decide) (by decide) rfl rfl (fun d => rX12_meansBinary hkb (fX12_shifts (l1i) (l2l) SH FI FL FR) ((5 : Int32)) n sl SH FI FL FR hok) (fun v33 n33 sl33 SH33 FI33 FL33 FR33 hok33 _ => ?_)
    show pw _ _ _ _ _ _ _ 107 _ [.int (v33)] _ _
    exact pw_iret (aX12_meansOperator 59 rfl) hok33
set_option maxHeartbeats 4000000 in
set_option maxRecDepth 100000 in
theorem rX12_meansOperator {sk : xK} {base N d : Nat} (hkb : x_kb sk base)  (n sl : Nat) (SH : Nat → Nat × Nat) (FI : Nat → Nat → Int32) (FL : Nat → Nat → Int64) (FR : Nat → Nat → Option Nat) (hok : pk n SH FR)  : pw pj_I sk base N d none 267 0 [(0, .ref (base + 121))] [] (n, sl, SH, FI, FL, FR) (RX12_meansOperator  n sl SH FI FL FR) := by
  unfold RX12_meansOperator
  refine pw_aloadn (aX12_meansOperator 0 rfl) rfl ?_
  refine pw_getr (v := .ref (base + 152)) (aX12_meansOperator 1 rfl) uf_RX12_114 un_RX12_114 (congrArg (fun r => va_rf (h_rf base r)) (q121_65 (hok).2.1)) ?_
  refine pw_aloadn (aX12_meansOperator 2 rfl) rfl ?_
  refine pw_getr (v := .int (FI 121 92)) (aX12_meansOperator 3 rfl) uf_RX12_656 un_RX12_656 rfl ?_
  refine pw_ialdr (c := 152) (ix := (FI 121 92).toInt.toNat) (aX12_meansOperator 4 rfl) rfl (fun _ => ?_)
  refine pw_istoren (L2 := [(1, .int (FI 152 (FI 121 92).toInt.toNat)), (0, .ref (base + 121))]) (aX12_meansOperator 5 rfl) rfl ?_
  refine pw_aloadn (aX12_meansOperator 6 rfl) rfl ?_
  refine pw_getr (v := .ref (base + 153)) (aX12_meansOperator 7 rfl) uf_RX12_117 un_RX12_117 (congrArg (fun r => va_rf (h_rf base r)) (q121_66 (hok).2.1)) ?_
  refine pw_aloadn (aX12_meansOperator 8 rfl) rfl ?_
  refine pw_getr (v := .int (FI 121 92)) (aX12_meansOperator 9 rfl) uf_RX12_656 un_RX12_656 rfl ?_
  refine pw_laldr (c := 153) (ix := (FI 121 92).toInt.toNat) (aX12_meansOperator 10 rfl) rfl (fun _ => ?_)
  refine pw_lstoren (L2 := [(2, .long (FL 153 (FI 121 92).toInt.toNat)), (1, .int (FI 152 (FI 121 92).toInt.toNat)), (0, .ref (base + 121))]) (aX12_meansOperator 11 rfl) rfl ?_
  refine pw_aloadn (aX12_meansOperator 12 rfl) rfl ?_
  refine pw_iloadn (aX12_meansOperator 13 rfl) rfl ?_
  refine pw_lloadn (aX12_meansOperator 14 rfl) rfl ?_
  refine pw_cf (pw_callV (Bs := [.int (FI 152 (FI 121 92).toInt.toNat), .long (FL 153 (FI 121 92).toInt.toNat)]) (rest := []) (aX12_meansOperator 15 rfl) um_RX12_607 ujX12_multiplies wc_RX12_607.2.2.2.2 (by decide) (by decide) rfl rfl (fun d => rX12_multiplies hkb (FI 152 (FI 121 92).toInt.toNat) (FL 153 (FI 121 92).toInt.toNat) n sl SH FI FL FR hok) (fun v0 n0 sl0 SH0 FI0 FL0 FR0 _ hC => ?_))
  obtain ⟨rfl, hC⟩ := hC; cases hC
  show pw _ _ _ _ _ _ _ 26 _ [.int (fX12_multiplies (FI 152 (FI 121 92).toInt.toNat) (FL 153 (FI 121 92).toInt.toNat) SH FI FL FR)] _ _
  refine pw_istore (L2 := [(4, .int (fX12_multiplies (FI 152 (FI 121 92).toInt.toNat) (FL 153 (FI 121 92).toInt.toNat) SH FI FL FR)), (2, .long (FL 153 (FI 121 92).toInt.toNat)), (1, .int (FI 152 (FI 121 92).toInt.toNat)), (0, .ref (base + 121))]) (aX12_meansOperator 16 rfl) rfl ?_
  refine pw_iload (aX12_meansOperator 17 rfl) rfl ?_
  refine pw_iconst (v := (-1 : Int32)) (aX12_meansOperator 18 rfl) rfl ?_
  refine pw_iceq (tgt := 43) (aX12_meansOperator 19 rfl) (by decide) (fun b1 => ?_) (fun b1 => ?_)
  · skip
    refine pw_iloadn (aX12_meansOperator 25 rfl) rfl ?_
    refine pw_iconst (v := (5 : Int32)) (aX12_meansOperator 26 rfl) rfl ?_
    refine pw_icne (tgt := 86) (aX12_meansOperator 27 rfl) (by decide) (fun b2 => ?_) (fun b2 => ?_)
    · skip
      refine pw_lloadn (aX12_meansOperator 28 rfl) rfl ?_
      refine pw_ldc2 (v := (43 : Int64)) (aX12_meansOperator 29 rfl) uk_RX12_605 ?_
      refine pw_lceq (tgt := 64) (aX12_meansOperator 30 rfl) (aX12_meansOperator 31 rfl) (by decide) (fun b3 => ?_) (fun b3 => ?_)
      · skip
        exact pw_Li (L2 := [(0, .ref (base + 121)), (1, .int (FI 152 (FI 121 92).toInt.toNat)), (2, .long (FL 153 (FI 121 92).toInt.toNat)), (4, .int (fX12_multiplies (FI 152 (FI 121 92).toInt.toNat) (FL 153 (FI 121 92).toInt.toNat) SH FI FL FR))]) [3, 2, 1, 0] (rX12_meansOperator_64 hkb  (FL 153 (FI 121 92).toInt.toNat) (FI 152 (FI 121 92).toInt.toNat) (fX12_multiplies (FI 152 (FI 121 92).toInt.toNat) (FL 153 (FI 121 92).toInt.toNat) SH FI FL FR) n sl SH FI FL FR hok  ) ⟨rfl, rfl, rfl, rfl, trivial⟩
      · skip
        refine pw_lloadn (aX12_meansOperator 32 rfl) rfl ?_
        refine pw_ldc2 (v := (45 : Int64)) (aX12_meansOperator 33 rfl) uk_RX12_651 ?_
        refine pw_lcne (tgt := 86) (aX12_meansOperator 34 rfl) (aX12_meansOperator 35 rfl) (by decide) (fun b4 => ?_) (fun b4 => ?_)
        · skip
          exact pw_Li (L2 := [(0, .ref (base + 121)), (1, .int (FI 152 (FI 121 92).toInt.toNat)), (2, .long (FL 153 (FI 121 92).toInt.toNat)), (4, .int (fX12_multiplies (FI 152 (FI 121 92).toInt.toNat) (FL 153 (FI 121 92).toInt.toNat) SH FI FL FR))]) [3, 2, 1, 0] (rX12_meansOperator_64 hkb  (FL 153 (FI 121 92).toInt.toNat) (FI 152 (FI 121 92).toInt.toNat) (fX12_multiplies (FI 152 (FI 121 92).toInt.toNat) (FL 153 (FI 121 92).toInt.toNat) SH FI FL FR) n sl SH FI FL FR hok  ) ⟨rfl, rfl, rfl, rfl, trivial⟩
        · skip
          exact pw_Li (L2 := [(0, .ref (base + 121)), (1, .int (FI 152 (FI 121 92).toInt.toNat)), (2, .long (FL 153 (FI 121 92).toInt.toNat)), (4, .int (fX12_multiplies (FI 152 (FI 121 92).toInt.toNat) (FL 153 (FI 121 92).toInt.toNat) SH FI FL FR))]) [3, 2, 1, 0] (rX12_meansOperator_86 hkb  (FI 152 (FI 121 92).toInt.toNat) (FL 153 (FI 121 92).toInt.toNat) (fX12_multiplies (FI 152 (FI 121 92).toInt.toNat) (FL 153 (FI 121 92).toInt.toNat) SH FI FL FR) n sl SH FI FL FR hok  ) ⟨rfl, rfl, rfl, rfl, trivial⟩
    · skip
      exact pw_Li (L2 := [(0, .ref (base + 121)), (1, .int (FI 152 (FI 121 92).toInt.toNat)), (2, .long (FL 153 (FI 121 92).toInt.toNat)), (4, .int (fX12_multiplies (FI 152 (FI 121 92).toInt.toNat) (FL 153 (FI 121 92).toInt.toNat) SH FI FL FR))]) [3, 2, 1, 0] (rX12_meansOperator_86 hkb  (FI 152 (FI 121 92).toInt.toNat) (FL 153 (FI 121 92).toInt.toNat) (fX12_multiplies (FI 152 (FI 121 92).toInt.toNat) (FL 153 (FI 121 92).toInt.toNat) SH FI FL FR) n sl SH FI FL FR hok  ) ⟨rfl, rfl, rfl, rfl, trivial⟩
  · skip
    refine pw_aloadn (aX12_meansOperator 20 rfl) rfl ?_
    refine pw_iload (aX12_meansOperator 21 rfl) rfl ?_
    refine pw_bipush (v := (7 : Int32)) (aX12_meansOperator 22 rfl) rfl ?_
    refine pw_callV (Bs := [.int (fX12_multiplies (FI 152 (FI 121 92).toInt.toNat) (FL 153 (FI 121 92).toInt.toNat) SH FI FL FR), .int ((7 : Int32))]) (rest := []) (aX12_meansOperator 23 rfl) um_RX12_718 ujX12_meansBinary wc_RX12_718.2.2.2.2 (by decide) (by decide) rfl rfl (fun d => rX12_meansBinary hkb (fX12_multiplies (FI 152 (FI 121 92).toInt.toNat) (FL 153 (FI 121 92).toInt.toNat) SH FI FL FR) ((7 : Int32)) n sl SH FI FL FR hok) (fun v5 n5 sl5 SH5 FI5 FL5 FR5 hok5 _ => ?_)
    show pw _ _ _ _ _ _ _ 42 _ [.int (v5)] _ _
    exact pw_iret (aX12_meansOperator 24 rfl) hok5
set_option maxHeartbeats 4000000 in
set_option maxRecDepth 100000 in
theorem rX12_choice_65 {sk : xK} {base N d : Nat} {K19 : Int32 → Int32 → Nat → Nat → (Nat → Nat × Nat) → (Nat → Nat → Int32) → (Nat → Nat → Int64) → (Nat → Nat → Option Nat) → Int64 → hS → Prop} (hkb : x_kb sk base) (a1 : Int32) (l3i : Int32) (s0i : Int32) (l2i : Int32) (n sl : Nat) (SH : Nat → Nat × Nat) (FI : Nat → Nat → Int32) (FL : Nat → Nat → Int64) (FR : Nat → Nat → Option Nat) (hok : pk n SH FR)  (hK19 : ∀ (l2i : Int32) (l3i : Int32) (n sl : Nat) (SH : Nat → Nat × Nat) (FI : Nat → Nat → Int32) (FL : Nat → Nat → Int64) (FR : Nat → Nat → Option Nat), pk n SH FR → pw pj_J sk base N d none 260 19 [(0, .ref (base + 121)), (1, .int (a1)), (2, .int (l2i)), (3, .int (l3i))] [] (n, sl, SH, FI, FL, FR) (K19 l2i l3i n sl SH FI FL FR)) : pw pj_J sk base N d none 260 65 [(0, .ref (base + 121)), (1, .int (a1)), (2, .int (l2i)), (3, .int (l3i))] [.int (s0i)] (n, sl, SH, FI, FL, FR) (RX12_choice_65 K19 a1 l3i s0i n sl SH FI FL FR) := by
  unfold RX12_choice_65
  refine pw_istoren (L2 := [(2, .int (s0i)), (0, .ref (base + 121)), (1, .int (a1)), (3, .int (l3i))]) (aX12_choice 37 rfl) rfl ?_
  refine pw_goto (tgt := 19) (aX12_choice 38 rfl) (by decide) ?_
  exact pw_Li (L2 := [(0, .ref (base + 121)), (1, .int (a1)), (2, .int (s0i)), (3, .int (l3i))]) [2, 0, 1, 3] (hK19 (s0i) (l3i) n sl SH FI FL FR hok) ⟨rfl, rfl, rfl, rfl, trivial⟩
set_option maxHeartbeats 4000000 in
set_option maxRecDepth 100000 in
theorem rX12_choice_39 {sk : xK} {base N d : Nat} {K19 : Int32 → Int32 → Nat → Nat → (Nat → Nat × Nat) → (Nat → Nat → Int32) → (Nat → Nat → Int64) → (Nat → Nat → Option Nat) → Int64 → hS → Prop} (hkb : x_kb sk base) (a1 : Int32) (l3i : Int32) (s0i : Int32) (l2i : Int32) (n sl : Nat) (SH : Nat → Nat × Nat) (FI : Nat → Nat → Int32) (FL : Nat → Nat → Int64) (FR : Nat → Nat → Option Nat) (hok : pk n SH FR)  (hK19 : ∀ (l2i : Int32) (l3i : Int32) (n sl : Nat) (SH : Nat → Nat × Nat) (FI : Nat → Nat → Int32) (FL : Nat → Nat → Int64) (FR : Nat → Nat → Option Nat), pk n SH FR → pw pj_J sk base N d none 260 19 [(0, .ref (base + 121)), (1, .int (a1)), (2, .int (l2i)), (3, .int (l3i))] [] (n, sl, SH, FI, FL, FR) (K19 l2i l3i n sl SH FI FL FR)) : pw pj_J sk base N d none 260 39 [(0, .ref (base + 121)), (1, .int (a1)), (2, .int (l2i)), (3, .int (l3i))] [.int (s0i)] (n, sl, SH, FI, FL, FR) (RX12_choice_39 K19 a1 l3i s0i n sl SH FI FL FR) := by
  unfold RX12_choice_39
  refine pw_istoren (L2 := [(2, .int (s0i)), (0, .ref (base + 121)), (1, .int (a1)), (3, .int (l3i))]) (aX12_choice 23 rfl) rfl ?_
  refine pw_goto (tgt := 19) (aX12_choice 24 rfl) (by decide) ?_
  exact pw_Li (L2 := [(0, .ref (base + 121)), (1, .int (a1)), (2, .int (s0i)), (3, .int (l3i))]) [2, 0, 1, 3] (hK19 (s0i) (l3i) n sl SH FI FL FR hok) ⟨rfl, rfl, rfl, rfl, trivial⟩
set_option maxHeartbeats 4000000 in
set_option maxRecDepth 100000 in
theorem bX12_choice_19 {sk : xK} {base N d : Nat} {K19 : Int32 → Int32 → Nat → Nat → (Nat → Nat × Nat) → (Nat → Nat → Int32) → (Nat → Nat → Int64) → (Nat → Nat → Option Nat) → Int64 → hS → Prop} (hkb : x_kb sk base) (a1 : Int32) (l2i : Int32) (l3i : Int32)  (n sl : Nat) (SH : Nat → Nat × Nat) (FI : Nat → Nat → Int32) (FL : Nat → Nat → Int64) (FR : Nat → Nat → Option Nat) (hok : pk n SH FR)  (hK19 : ∀ (l2i : Int32) (l3i : Int32) (n sl : Nat) (SH : Nat → Nat × Nat) (FI : Nat → Nat → Int32) (FL : Nat → Nat → Int64) (FR : Nat → Nat → Option Nat), pk n SH FR → pw pj_J sk base N d none 260 19 [(0, .ref (base + 121)), (1, .int (a1)), (2, .int (l2i)), (3, .int (l3i))] [] (n, sl, SH, FI, FL, FR) (K19 l2i l3i n sl SH FI FL FR)) : pw pj_J sk base (N + 1) d none 260 19 [(0, .ref (base + 121)), (1, .int (a1)), (2, .int (l2i)), (3, .int (l3i))] [] (n, sl, SH, FI, FL, FR) (BX12_choice_19 K19 a1 l2i l3i n sl SH FI FL FR) := by
  unfold BX12_choice_19
  refine pd_iloadn (aX12_choice 13 rfl) rfl ?_
  refine pw_ifeq (tgt := 69) (aX12_choice 14 rfl) (by decide) (fun b0 => ?_) (fun b0 => ?_)
  · skip
    refine pw_aloadn (aX12_choice 39 rfl) rfl ?_
    refine pw_getr (v := .ref (base + 173)) (aX12_choice 40 rfl) uf_RX12_178 un_RX12_178 (congrArg (fun r => va_rf (h_rf base r)) (q121_100 (hok).2.1)) ?_
    refine pw_iconst (v := (0 : Int32)) (aX12_choice 41 rfl) rfl ?_
    refine pw_laldr (c := 173) (ix := 0) (aX12_choice 42 rfl) rfl (fun _ => ?_)
    exact pw_lret (aX12_choice 43 rfl) hok
  · skip
    refine pw_iloadn (aX12_choice 15 rfl) rfl ?_
    refine pw_ifeq (tgt := 43) (aX12_choice 16 rfl) (by decide) (fun b1 => ?_) (fun b1 => ?_)
    · skip
      refine pw_aloadn (aX12_choice 25 rfl) rfl ?_
      refine pw_iconst (v := (0 : Int32)) (aX12_choice 26 rfl) rfl ?_
      refine pw_putri (aX12_choice 27 rfl) uf_RX12_577 (fun _ _ _ => rfl) (fun t3 => ?_)
      refine pw_aloadn (aX12_choice 28 rfl) rfl ?_
      refine pw_callV (Bs := []) (rest := []) (aX12_choice 29 rfl) um_RX12_689 ujX12_meansOperator wc_RX12_689.2.2.2.2 (by decide) (by decide) rfl rfl (fun d => rX12_meansOperator hkb  n sl SH (h_up FI 121 91 ((0 : Int32))) FL FR hok) (fun v3 n3 sl3 SH3 FI3 FL3 FR3 hok3 _ => ?_)
      show pw _ _ _ _ _ _ _ 52 _ [.int (v3)] _ _
      refine pw_istoren (L2 := [(3, .int (v3)), (0, .ref (base + 121)), (1, .int (a1)), (2, .int (l2i))]) (aX12_choice 30 rfl) rfl ?_
      refine pw_aloadn (aX12_choice 31 rfl) rfl ?_
      refine pw_getr (v := .int (FI3 121 91)) (aX12_choice 32 rfl) uf_RX12_577 un_RX12_577 rfl ?_
      refine pw_ifne (tgt := 64) (aX12_choice 33 rfl) (by decide) (fun b4 => ?_) (fun b4 => ?_)
      · skip
        refine pw_iconst (v := (1 : Int32)) (aX12_choice 34 rfl) rfl ?_
        refine pw_goto (tgt := 65) (aX12_choice 35 rfl) (by decide) ?_
        exact pw_Li (L2 := [(0, .ref (base + 121)), (1, .int (a1)), (2, .int (l2i)), (3, .int (v3))]) [3, 0, 1, 2] (rX12_choice_65 hkb a1 (v3) ((1 : Int32)) (l2i) n3 sl3 SH3 FI3 FL3 FR3 hok3  hK19) ⟨rfl, rfl, rfl, rfl, trivial⟩
      · skip
        refine pw_iconst (v := (0 : Int32)) (aX12_choice 36 rfl) rfl ?_
        exact pw_Li (L2 := [(0, .ref (base + 121)), (1, .int (a1)), (2, .int (l2i)), (3, .int (v3))]) [3, 0, 1, 2] (rX12_choice_65 hkb a1 (v3) ((0 : Int32)) (l2i) n3 sl3 SH3 FI3 FL3 FR3 hok3  hK19) ⟨rfl, rfl, rfl, rfl, trivial⟩
    · skip
      refine pw_aloadn (aX12_choice 17 rfl) rfl ?_
      refine pw_callV (Bs := []) (rest := []) (aX12_choice 18 rfl) um_RX12_686 ujX12_meansOperand wc_RX12_686.2.2.2.2 (by decide) (by decide) rfl rfl (fun d => rX12_meansOperand hkb  n sl SH FI FL FR hok) (fun v5 n5 sl5 SH5 FI5 FL5 FR5 hok5 _ => ?_)
      show pw _ _ _ _ _ _ _ 31 _ [.int (v5)] _ _
      refine pw_ifne (tgt := 38) (aX12_choice 19 rfl) (by decide) (fun b6 => ?_) (fun b6 => ?_)
      · skip
        refine pw_iconst (v := (1 : Int32)) (aX12_choice 20 rfl) rfl ?_
        refine pw_goto (tgt := 39) (aX12_choice 21 rfl) (by decide) ?_
        exact pw_Li (L2 := [(0, .ref (base + 121)), (1, .int (a1)), (2, .int (l2i)), (3, .int (l3i))]) [0, 1, 2, 3] (rX12_choice_39 hkb a1 (l3i) ((1 : Int32)) (l2i) n5 sl5 SH5 FI5 FL5 FR5 hok5  hK19) ⟨rfl, rfl, rfl, rfl, trivial⟩
      · skip
        refine pw_iconst (v := (0 : Int32)) (aX12_choice 22 rfl) rfl ?_
        exact pw_Li (L2 := [(0, .ref (base + 121)), (1, .int (a1)), (2, .int (l2i)), (3, .int (l3i))]) [0, 1, 2, 3] (rX12_choice_39 hkb a1 (l3i) ((0 : Int32)) (l2i) n5 sl5 SH5 FI5 FL5 FR5 hok5  hK19) ⟨rfl, rfl, rfl, rfl, trivial⟩
theorem gX12_choice_19 {sk : xK} {base d : Nat}  (hkb : x_kb sk base) (a1 : Int32) (N : Nat) :  ∀ (l2i : Int32) (l3i : Int32)  (n sl : Nat) (SH : Nat → Nat × Nat) (FI : Nat → Nat → Int32) (FL : Nat → Nat → Int64) (FR : Nat → Nat → Option Nat), pk n SH FR → pw pj_J sk base N d none 260 19 [(0, .ref (base + 121)), (1, .int (a1)), (2, .int (l2i)), (3, .int (l3i))] [] (n, sl, SH, FI, FL, FR) (GX12_choice_19  a1 (N + 1) l2i l3i n sl SH FI FL FR) := by
  induction N with
  | zero => intros; exact pw_0
  | succ N ih => intro   l2i l3i  n sl SH FI FL FR hok; exact bX12_choice_19 hkb a1 l2i l3i  n sl SH FI FL FR hok  (ih  )
theorem rX12_choice_19 {sk : xK} {base N d : Nat}  (hkb : x_kb sk base) (a1 : Int32) (l2i : Int32) (l3i : Int32)  (n sl : Nat) (SH : Nat → Nat × Nat) (FI : Nat → Nat → Int32) (FL : Nat → Nat → Int64) (FR : Nat → Nat → Option Nat) (hok : pk n SH FR)   : pw pj_J sk base N d none 260 19 [(0, .ref (base + 121)), (1, .int (a1)), (2, .int (l2i)), (3, .int (l3i))] [] (n, sl, SH, FI, FL, FR) (RX12_choice_19  a1 l2i l3i n sl SH FI FL FR) := pw_cons (gX12_choice_19 hkb a1 N   l2i l3i  n sl SH FI FL FR hok) (fun _ _ h => ⟨_, h⟩)
set_option maxHeartbeats 4000000 in
set_option maxRecDepth 100000 in
theorem rX12_choice {sk : xK} {base N d : Nat} (hkb : x_kb sk base) (a1 : Int32) (n sl : Nat) (SH : Nat → Nat × Nat) (FI : Nat → Nat → Int32) (FL : Nat → Nat → Int64) (FR : Nat → Nat → Option Nat) (hok : pk n SH FR)  : pw pj_J sk base N d none 260 0 [(0, .ref (base + 121)), (1, .int (a1))] [] (n, sl, SH, FI, FL, FR) (RX12_choice a1 n sl SH FI FL FR) := by
  unfold RX12_choice
  refine pw_aloadn (aX12_choice 0 rfl) rfl ?_
  refine pw_iconst (v := (0 : Int32)) (aX12_choice 1 rfl) rfl ?_
  refine pw_putri (aX12_choice 2 rfl) uf_RX12_556 (fun _ _ _ => rfl) (fun t1 => ?_)
  refine pw_aloadn (aX12_choice 3 rfl) rfl ?_
  refine pw_iconst (v := (0 : Int32)) (aX12_choice 4 rfl) rfl ?_
  refine pw_putri (aX12_choice 5 rfl) uf_RX12_683 (fun _ _ _ => rfl) (fun t2 => ?_)
  refine pw_aloadn (aX12_choice 6 rfl) rfl ?_
  refine pw_iloadn (aX12_choice 7 rfl) rfl ?_
  refine pw_putri (aX12_choice 8 rfl) uf_RX12_680 (fun _ _ _ => rfl) (fun t3 => ?_)
  refine pw_iconst (v := (1 : Int32)) (aX12_choice 9 rfl) rfl ?_
  refine pw_istoren (L2 := [(2, .int ((1 : Int32))), (0, .ref (base + 121)), (1, .int (a1))]) (aX12_choice 10 rfl) rfl ?_
  refine pw_iconst (v := (1 : Int32)) (aX12_choice 11 rfl) rfl ?_
  refine pw_istoren (L2 := [(3, .int ((1 : Int32))), (2, .int ((1 : Int32))), (0, .ref (base + 121)), (1, .int (a1))]) (aX12_choice 12 rfl) rfl ?_
  exact pw_Li (L2 := [(0, .ref (base + 121)), (1, .int (a1)), (2, .int ((1 : Int32))), (3, .int ((1 : Int32)))]) [3, 2, 0, 1] (rX12_choice_19 hkb a1 ((1 : Int32)) ((1 : Int32)) n sl SH (h_up (h_up (h_up FI 121 90 ((0 : Int32))) 121 101 ((0 : Int32))) 121 104 (a1)) FL FR hok  ) ⟨rfl, rfl, rfl, rfl, trivial⟩
set_option maxHeartbeats 4000000 in
set_option maxRecDepth 100000 in
theorem rX12_meantPlace_184 {sk : xK} {base N d : Nat}  (hkb : x_kb sk base) (a1 : Int32) (a2 : Int32) (l3i : Int32) (l4l : Int64) (l6i : Int32) (n sl : Nat) (SH : Nat → Nat × Nat) (FI : Nat → Nat → Int32) (FL : Nat → Nat → Int64) (FR : Nat → Nat → Option Nat) (hok : pk n SH FR)   : pw pj_V sk base N d none 257 184 [(0, .ref (base + 121)), (1, .int (a1)), (2, .int (a2)), (3, .int (l3i)), (4, .long (l4l)), (6, .int (l6i))] [] (n, sl, SH, FI, FL, FR) (RX12_meantPlace_184  a1 a2 l3i l4l n sl SH FI FL FR) := by
  unfold RX12_meantPlace_184
  refine pw_iloadn (aX12_meantPlace 107 rfl) rfl ?_
  refine pw_ifne (tgt := 189) (aX12_meantPlace 108 rfl) (by decide) (fun b0 => ?_) (fun b0 => ?_)
  · skip
    exact pw_vret (aX12_meantPlace 109 rfl) hok
  · skip
    refine pw_aloadn (aX12_meantPlace 110 rfl) rfl ?_
    refine pw_getr (v := .ref (base + 169)) (aX12_meantPlace 111 rfl) uf_RX12_166 un_RX12_166 (congrArg (fun r => va_rf (h_rf base r)) (q121_96 (hok).2.1)) ?_
    refine pw_iloadn (aX12_meantPlace 112 rfl) rfl ?_
    refine pw_iloadn (aX12_meantPlace 113 rfl) rfl ?_
    refine pw_iastr (c := 169) (ix := (a2).toInt.toNat) (aX12_meantPlace 114 rfl) rfl (fun _ => ?_)
    refine pw_aloadn (aX12_meantPlace 115 rfl) rfl ?_
    refine pw_getr (v := .ref (base + 170)) (aX12_meantPlace 116 rfl) uf_RX12_169 un_RX12_169 (congrArg (fun r => va_rf (h_rf base r)) (q121_97 (hok).2.1)) ?_
    refine pw_iloadn (aX12_meantPlace 117 rfl) rfl ?_
    refine pw_lload (aX12_meantPlace 118 rfl) rfl ?_
    refine pw_lastr (c := 170) (ix := (a2).toInt.toNat) (aX12_meantPlace 119 rfl) rfl (fun _ => ?_)
    exact pw_vret (aX12_meantPlace 120 rfl) hok
set_option maxHeartbeats 4000000 in
set_option maxRecDepth 100000 in
theorem rX12_meantPlace_165 {sk : xK} {base N d : Nat} {K125 : Int32 → Int64 → Nat → Nat → (Nat → Nat × Nat) → (Nat → Nat → Int32) → (Nat → Nat → Int64) → (Nat → Nat → Option Nat) → Unit → hS → Prop} (hkb : x_kb sk base) (a1 : Int32) (a2 : Int32) (l3i : Int32) (l4l : Int64) (l6i : Int32) (n sl : Nat) (SH : Nat → Nat × Nat) (FI : Nat → Nat → Int32) (FL : Nat → Nat → Int64) (FR : Nat → Nat → Option Nat) (hok : pk n SH FR)  (hK125 : ∀ (l3i : Int32) (l4l : Int64) (l6i : Int32) (n sl : Nat) (SH : Nat → Nat × Nat) (FI : Nat → Nat → Int32) (FL : Nat → Nat → Int64) (FR : Nat → Nat → Option Nat), pk n SH FR → pw pj_V sk base N d none 257 125 [(0, .ref (base + 121)), (1, .int (a1)), (2, .int (a2)), (3, .int (l3i)), (4, .long (l4l)), (6, .int (l6i))] [] (n, sl, SH, FI, FL, FR) (K125 l3i l4l n sl SH FI FL FR)) : pw pj_V sk base N d none 257 165 [(0, .ref (base + 121)), (1, .int (a1)), (2, .int (a2)), (3, .int (l3i)), (4, .long (l4l)), (6, .int (l6i))] [] (n, sl, SH, FI, FL, FR) (RX12_meantPlace_165 K125 a1 a2 l3i l4l n sl SH FI FL FR) := by
  unfold RX12_meantPlace_165
  refine pw_lload (aX12_meantPlace 96 rfl) rfl ?_
  refine pw_lconst (v := (1 : Int64)) (aX12_meantPlace 97 rfl) rfl ?_
  refine pw_ladd (aX12_meantPlace 98 rfl) ?_
  refine pw_lstore (L2 := [(4, .long ((l4l) + ((1 : Int64)))), (0, .ref (base + 121)), (1, .int (a1)), (2, .int (a2)), (3, .int (l3i)), (6, .int (l6i))]) (aX12_meantPlace 99 rfl) rfl ?_
  refine pw_aloadn (aX12_meantPlace 100 rfl) rfl ?_
  refine pw_aloadn (aX12_meantPlace 101 rfl) rfl ?_
  refine pw_getr (v := .int (FI 121 92)) (aX12_meantPlace 102 rfl) uf_RX12_656 un_RX12_656 rfl ?_
  refine pw_iconst (v := (1 : Int32)) (aX12_meantPlace 103 rfl) rfl ?_
  refine pw_iadd (aX12_meantPlace 104 rfl) ?_
  refine pw_putri (aX12_meantPlace 105 rfl) uf_RX12_656 (fun _ _ _ => rfl) (fun t1 => ?_)
  refine pw_goto (tgt := 125) (aX12_meantPlace 106 rfl) (by decide) ?_
  exact pw_Li (L2 := [(0, .ref (base + 121)), (1, .int (a1)), (2, .int (a2)), (3, .int (l3i)), (4, .long ((l4l) + ((1 : Int64)))), (6, .int (l6i))]) [4, 0, 1, 2, 3, 5] (hK125 (l3i) ((l4l) + ((1 : Int64))) (l6i) n sl SH (h_up FI 121 92 ((FI 121 92) + ((1 : Int32)))) FL FR hok) ⟨rfl, rfl, rfl, rfl, rfl, rfl, trivial⟩
set_option maxHeartbeats 4000000 in
set_option maxRecDepth 100000 in
theorem bX12_meantPlace_125 {sk : xK} {base N d : Nat} {K125 : Int32 → Int64 → Nat → Nat → (Nat → Nat × Nat) → (Nat → Nat → Int32) → (Nat → Nat → Int64) → (Nat → Nat → Option Nat) → Unit → hS → Prop} (hkb : x_kb sk base) (a1 : Int32) (a2 : Int32) (l3i : Int32) (l4l : Int64) (l6i : Int32) (n sl : Nat) (SH : Nat → Nat × Nat) (FI : Nat → Nat → Int32) (FL : Nat → Nat → Int64) (FR : Nat → Nat → Option Nat) (hok : pk n SH FR)  (hK125 : ∀ (l3i : Int32) (l4l : Int64) (l6i : Int32) (n sl : Nat) (SH : Nat → Nat × Nat) (FI : Nat → Nat → Int32) (FL : Nat → Nat → Int64) (FR : Nat → Nat → Option Nat), pk n SH FR → pw pj_V sk base N d none 257 125 [(0, .ref (base + 121)), (1, .int (a1)), (2, .int (a2)), (3, .int (l3i)), (4, .long (l4l)), (6, .int (l6i))] [] (n, sl, SH, FI, FL, FR) (K125 l3i l4l n sl SH FI FL FR)) : pw pj_V sk base (N + 1) d none 257 125 [(0, .ref (base + 121)), (1, .int (a1)), (2, .int (a2)), (3, .int (l3i)), (4, .long (l4l)), (6, .int (l6i))] [] (n, sl, SH, FI, FL, FR) (BX12_meantPlace_125 K125 a1 a2 l3i l4l n sl SH FI FL FR) := by
  unfold BX12_meantPlace_125
  refine pd_aloadn (aX12_meantPlace 72 rfl) rfl ?_
  refine pw_getr (v := .ref (base + 152)) (aX12_meantPlace 73 rfl) uf_RX12_114 un_RX12_114 (congrArg (fun r => va_rf (h_rf base r)) (q121_65 (hok).2.1)) ?_
  refine pw_aloadn (aX12_meantPlace 74 rfl) rfl ?_
  refine pw_getr (v := .int (FI 121 92)) (aX12_meantPlace 75 rfl) uf_RX12_656 un_RX12_656 rfl ?_
  refine pw_ialdr (c := 152) (ix := (FI 121 92).toInt.toNat) (aX12_meantPlace 76 rfl) rfl (fun _ => ?_)
  refine pw_iconst (v := (3 : Int32)) (aX12_meantPlace 77 rfl) rfl ?_
  refine pw_icne (tgt := 184) (aX12_meantPlace 78 rfl) (by decide) (fun b0 => ?_) (fun b0 => ?_)
  · skip
    refine pw_iloadn (aX12_meantPlace 79 rfl) rfl ?_
    refine pw_ifeq (tgt := 165) (aX12_meantPlace 80 rfl) (by decide) (fun b1 => ?_) (fun b1 => ?_)
    · skip
      exact pw_Li (L2 := [(0, .ref (base + 121)), (1, .int (a1)), (2, .int (a2)), (3, .int (l3i)), (4, .long (l4l)), (6, .int (l6i))]) [0, 1, 2, 3, 4, 5] (rX12_meantPlace_165 hkb a1 a2 (l3i) (l4l) (l6i) n sl SH FI FL FR hok  hK125) ⟨rfl, rfl, rfl, rfl, rfl, rfl, trivial⟩
    · skip
      refine pw_aloadn (aX12_meantPlace 81 rfl) rfl ?_
      refine pw_getr (v := .ref (base + 172)) (aX12_meantPlace 82 rfl) uf_RX12_175 un_RX12_175 (congrArg (fun r => va_rf (h_rf base r)) (q121_99 (hok).2.1)) ?_
      refine pw_bipush (v := (64 : Int32)) (aX12_meantPlace 83 rfl) rfl ?_
      refine pw_iloadn (aX12_meantPlace 84 rfl) rfl ?_
      refine pw_imul (aX12_meantPlace 85 rfl) ?_
      refine pw_lload (aX12_meantPlace 86 rfl) rfl ?_
      refine pw_l2i (aX12_meantPlace 87 rfl) ?_
      refine pw_iadd (aX12_meantPlace 88 rfl) ?_
      refine pw_aloadn (aX12_meantPlace 89 rfl) rfl ?_
      refine pw_getr (v := .ref (base + 153)) (aX12_meantPlace 90 rfl) uf_RX12_117 un_RX12_117 (congrArg (fun r => va_rf (h_rf base r)) (q121_66 (hok).2.1)) ?_
      refine pw_aloadn (aX12_meantPlace 91 rfl) rfl ?_
      refine pw_getr (v := .int (FI 121 92)) (aX12_meantPlace 92 rfl) uf_RX12_656 un_RX12_656 rfl ?_
      refine pw_laldr (c := 153) (ix := (FI 121 92).toInt.toNat) (aX12_meantPlace 93 rfl) rfl (fun _ => ?_)
      refine pw_l2i (aX12_meantPlace 94 rfl) ?_
      refine pw_iastr (c := 172) (ix := ((((64 : Int32)) * (a2)) + ((l4l).toInt32)).toInt.toNat) (aX12_meantPlace 95 rfl) rfl (fun _ => ?_)
      exact pw_Li (L2 := [(0, .ref (base + 121)), (1, .int (a1)), (2, .int (a2)), (3, .int (l3i)), (4, .long (l4l)), (6, .int (l6i))]) [0, 1, 2, 3, 4, 5] (rX12_meantPlace_165 hkb a1 a2 (l3i) (l4l) (l6i) n sl SH (h_up FI 172 ((((64 : Int32)) * (a2)) + ((l4l).toInt32)).toInt.toNat ((FL 153 (FI 121 92).toInt.toNat).toInt32)) FL FR hok  hK125) ⟨rfl, rfl, rfl, rfl, rfl, rfl, trivial⟩
  · skip
    exact pw_Li (L2 := [(0, .ref (base + 121)), (1, .int (a1)), (2, .int (a2)), (3, .int (l3i)), (4, .long (l4l)), (6, .int (l6i))]) [0, 1, 2, 3, 4, 5] (rX12_meantPlace_184 hkb a1 a2 (l3i) (l4l) (l6i) n sl SH FI FL FR hok  ) ⟨rfl, rfl, rfl, rfl, rfl, rfl, trivial⟩
theorem gX12_meantPlace_125 {sk : xK} {base d : Nat}  (hkb : x_kb sk base) (a1 : Int32) (a2 : Int32) (N : Nat) :  ∀ (l3i : Int32) (l4l : Int64) (l6i : Int32) (n sl : Nat) (SH : Nat → Nat × Nat) (FI : Nat → Nat → Int32) (FL : Nat → Nat → Int64) (FR : Nat → Nat → Option Nat), pk n SH FR → pw pj_V sk base N d none 257 125 [(0, .ref (base + 121)), (1, .int (a1)), (2, .int (a2)), (3, .int (l3i)), (4, .long (l4l)), (6, .int (l6i))] [] (n, sl, SH, FI, FL, FR) (GX12_meantPlace_125  a1 a2 (N + 1) l3i l4l n sl SH FI FL FR) := by
  induction N with
  | zero => intros; exact pw_0
  | succ N ih => intro   l3i l4l l6i n sl SH FI FL FR hok; exact bX12_meantPlace_125 hkb a1 a2 l3i l4l l6i n sl SH FI FL FR hok  (ih  )
theorem rX12_meantPlace_125 {sk : xK} {base N d : Nat}  (hkb : x_kb sk base) (a1 : Int32) (a2 : Int32) (l3i : Int32) (l4l : Int64) (l6i : Int32) (n sl : Nat) (SH : Nat → Nat × Nat) (FI : Nat → Nat → Int32) (FL : Nat → Nat → Int64) (FR : Nat → Nat → Option Nat) (hok : pk n SH FR)   : pw pj_V sk base N d none 257 125 [(0, .ref (base + 121)), (1, .int (a1)), (2, .int (a2)), (3, .int (l3i)), (4, .long (l4l)), (6, .int (l6i))] [] (n, sl, SH, FI, FL, FR) (RX12_meantPlace_125  a1 a2 l3i l4l n sl SH FI FL FR) := pw_cons (gX12_meantPlace_125 hkb a1 a2 N   l3i l4l l6i n sl SH FI FL FR hok) (fun _ _ h => ⟨_, h⟩)
set_option maxHeartbeats 4000000 in
set_option maxRecDepth 100000 in
theorem rX12_meantPlace {sk : xK} {base N d : Nat} (hkb : x_kb sk base) (a1 : Int32) (a2 : Int32) (n sl : Nat) (SH : Nat → Nat × Nat) (FI : Nat → Nat → Int32) (FL : Nat → Nat → Int64) (FR : Nat → Nat → Option Nat) (hok : pk n SH FR)  : pw pj_V sk base N d none 257 0 [(0, .ref (base + 121)), (1, .int (a1)), (2, .int (a2))] [] (n, sl, SH, FI, FL, FR) (RX12_meantPlace a1 a2 n sl SH FI FL FR) := by
  unfold RX12_meantPlace
  refine pw_iconst (v := (0 : Int32)) (aX12_meantPlace 0 rfl) rfl ?_
  refine pw_istoren (L2 := [(3, .int ((0 : Int32))), (0, .ref (base + 121)), (1, .int (a1)), (2, .int (a2))]) (aX12_meantPlace 1 rfl) rfl ?_
  refine pw_lconst (v := (0 : Int64)) (aX12_meantPlace 2 rfl) rfl ?_
  refine pw_lstore (L2 := [(4, .long ((0 : Int64))), (3, .int ((0 : Int32))), (0, .ref (base + 121)), (1, .int (a1)), (2, .int (a2))]) (aX12_meantPlace 3 rfl) rfl ?_
  refine pw_aloadn (aX12_meantPlace 4 rfl) rfl ?_
  refine pw_bipush (v := (91 : Int32)) (aX12_meantPlace 5 rfl) rfl ?_
  refine pw_cf (pw_callV (Bs := [.int ((91 : Int32))]) (rest := []) (aX12_meantPlace 6 rfl) um_RX12_669 ujX12_keepsSign wc_RX12_669.2.2.2.2 (by decide) (by decide) rfl rfl (fun d => rX12_keepsSign hkb ((91 : Int32)) n sl SH FI FL FR hok) (fun v0 n0 sl0 SH0 FI0 FL0 FR0 _ hC => ?_))
  obtain ⟨rfl, hC⟩ := hC; cases hC
  show pw _ _ _ _ _ _ _ 11 _ [.int (fX12_keepsSign ((91 : Int32)) SH FI FL FR)] _ _
  refine pw_ifeq (tgt := 46) (aX12_meantPlace 7 rfl) (by decide) (fun b1 => ?_) (fun b1 => ?_)
  · skip
    refine pw_aloadn (aX12_meantPlace 27 rfl) rfl ?_
    refine pw_getr (v := .ref (base + 153)) (aX12_meantPlace 28 rfl) uf_RX12_117 un_RX12_117 (congrArg (fun r => va_rf (h_rf base r)) (q121_66 (hok).2.1)) ?_
    refine pw_aloadn (aX12_meantPlace 29 rfl) rfl ?_
    refine pw_getr (v := .int (FI 121 92)) (aX12_meantPlace 30 rfl) uf_RX12_656 un_RX12_656 rfl ?_
    refine pw_laldr (c := 153) (ix := (FI 121 92).toInt.toNat) (aX12_meantPlace 31 rfl) rfl (fun _ => ?_)
    refine pw_l2i (aX12_meantPlace 32 rfl) ?_
    refine pw_istore (L2 := [(6, .int ((FL 153 (FI 121 92).toInt.toNat).toInt32)), (4, .long ((0 : Int64))), (3, .int ((0 : Int32))), (0, .ref (base + 121)), (1, .int (a1)), (2, .int (a2))]) (aX12_meantPlace 33 rfl) rfl ?_
    refine pw_aloadn (aX12_meantPlace 34 rfl) rfl ?_
    refine pw_aloadn (aX12_meantPlace 35 rfl) rfl ?_
    refine pw_getr (v := .int (FI 121 92)) (aX12_meantPlace 36 rfl) uf_RX12_656 un_RX12_656 rfl ?_
    refine pw_iconst (v := (1 : Int32)) (aX12_meantPlace 37 rfl) rfl ?_
    refine pw_iadd (aX12_meantPlace 38 rfl) ?_
    refine pw_putri (aX12_meantPlace 39 rfl) uf_RX12_656 (fun _ _ _ => rfl) (fun t3 => ?_)
    refine pw_iload (aX12_meantPlace 40 rfl) rfl ?_
    refine pw_ifne (tgt := 99) (aX12_meantPlace 41 rfl) (by decide) (fun b3 => ?_) (fun b3 => ?_)
    · skip
      refine pw_iconst (v := (2 : Int32)) (aX12_meantPlace 42 rfl) rfl ?_
      refine pw_istoren (L2 := [(3, .int ((2 : Int32))), (6, .int ((FL 153 (FI 121 92).toInt.toNat).toInt32)), (4, .long ((0 : Int64))), (0, .ref (base + 121)), (1, .int (a1)), (2, .int (a2))]) (aX12_meantPlace 43 rfl) rfl ?_
      refine pw_aloadn (aX12_meantPlace 44 rfl) rfl ?_
      refine pw_getr (v := .ref (base + 153)) (aX12_meantPlace 45 rfl) uf_RX12_117 un_RX12_117 (congrArg (fun r => va_rf (h_rf base r)) (q121_66 (hok).2.1)) ?_
      refine pw_aloadn (aX12_meantPlace 46 rfl) rfl ?_
      refine pw_getr (v := .int ((FI 121 92) + ((1 : Int32)))) (aX12_meantPlace 47 rfl) uf_RX12_656 un_RX12_656 rfl ?_
      refine pw_laldr (c := 153) (ix := ((FI 121 92) + ((1 : Int32))).toInt.toNat) (aX12_meantPlace 48 rfl) rfl (fun _ => ?_)
      refine pw_lstore (L2 := [(4, .long (FL 153 ((FI 121 92) + ((1 : Int32))).toInt.toNat)), (3, .int ((2 : Int32))), (6, .int ((FL 153 (FI 121 92).toInt.toNat).toInt32)), (0, .ref (base + 121)), (1, .int (a1)), (2, .int (a2))]) (aX12_meantPlace 49 rfl) rfl ?_
      refine pw_aloadn (aX12_meantPlace 50 rfl) rfl ?_
      refine pw_aloadn (aX12_meantPlace 51 rfl) rfl ?_
      refine pw_getr (v := .int ((FI 121 92) + ((1 : Int32)))) (aX12_meantPlace 52 rfl) uf_RX12_656 un_RX12_656 rfl ?_
      refine pw_iconst (v := (1 : Int32)) (aX12_meantPlace 53 rfl) rfl ?_
      refine pw_iadd (aX12_meantPlace 54 rfl) ?_
      refine pw_putri (aX12_meantPlace 55 rfl) uf_RX12_656 (fun _ _ _ => rfl) (fun t5 => ?_)
      refine pw_goto (tgt := 184) (aX12_meantPlace 56 rfl) (by decide) ?_
      exact pw_Li (L2 := [(0, .ref (base + 121)), (1, .int (a1)), (2, .int (a2)), (3, .int ((2 : Int32))), (4, .long (FL 153 ((FI 121 92) + ((1 : Int32))).toInt.toNat)), (6, .int ((FL 153 (FI 121 92).toInt.toNat).toInt32))]) [4, 3, 5, 0, 1, 2] (rX12_meantPlace_184 hkb a1 a2 ((2 : Int32)) (FL 153 ((FI 121 92) + ((1 : Int32))).toInt.toNat) ((FL 153 (FI 121 92).toInt.toNat).toInt32) n sl SH (h_up (h_up FI 121 92 ((FI 121 92) + ((1 : Int32)))) 121 92 (((FI 121 92) + ((1 : Int32))) + ((1 : Int32)))) FL FR hok  ) ⟨rfl, rfl, rfl, rfl, rfl, rfl, trivial⟩
    · skip
      refine pw_iload (aX12_meantPlace 57 rfl) rfl ?_
      refine pw_iconst (v := (1 : Int32)) (aX12_meantPlace 58 rfl) rfl ?_
      refine pw_icne (tgt := 117) (aX12_meantPlace 59 rfl) (by decide) (fun b5 => ?_) (fun b5 => ?_)
      · skip
        refine pw_iconst (v := (3 : Int32)) (aX12_meantPlace 60 rfl) rfl ?_
        refine pw_istoren (L2 := [(3, .int ((3 : Int32))), (6, .int ((FL 153 (FI 121 92).toInt.toNat).toInt32)), (4, .long ((0 : Int64))), (0, .ref (base + 121)), (1, .int (a1)), (2, .int (a2))]) (aX12_meantPlace 61 rfl) rfl ?_
        refine pw_aloadn (aX12_meantPlace 62 rfl) rfl ?_
        refine pw_iloadn (aX12_meantPlace 63 rfl) rfl ?_
        refine pw_callV (Bs := [.int (a1)]) (rest := []) (aX12_meantPlace 64 rfl) um_RX12_676 ujX12_choice wc_RX12_676.2.2.2.2 (by decide) (by decide) rfl rfl (fun d => rX12_choice hkb (a1) n sl SH (h_up FI 121 92 ((FI 121 92) + ((1 : Int32)))) FL FR hok) (fun v6 n6 sl6 SH6 FI6 FL6 FR6 hok6 _ => ?_)
        show pw _ _ _ _ _ _ _ 112 _ [.long (v6)] _ _
        refine pw_lstore (L2 := [(4, .long (v6)), (3, .int ((3 : Int32))), (6, .int ((FL 153 (FI 121 92).toInt.toNat).toInt32)), (0, .ref (base + 121)), (1, .int (a1)), (2, .int (a2))]) (aX12_meantPlace 65 rfl) rfl ?_
        refine pw_goto (tgt := 184) (aX12_meantPlace 66 rfl) (by decide) ?_
        exact pw_Li (L2 := [(0, .ref (base + 121)), (1, .int (a1)), (2, .int (a2)), (3, .int ((3 : Int32))), (4, .long (v6)), (6, .int ((FL 153 (FI 121 92).toInt.toNat).toInt32))]) [4, 3, 5, 0, 1, 2] (rX12_meantPlace_184 hkb a1 a2 ((3 : Int32)) (v6) ((FL 153 (FI 121 92).toInt.toNat).toInt32) n6 sl6 SH6 FI6 FL6 FR6 hok6  ) ⟨rfl, rfl, rfl, rfl, rfl, rfl, trivial⟩
      · skip
        refine pw_iload (aX12_meantPlace 67 rfl) rfl ?_
        refine pw_iconst (v := (2 : Int32)) (aX12_meantPlace 68 rfl) rfl ?_
        refine pw_icne (tgt := 184) (aX12_meantPlace 69 rfl) (by decide) (fun b7 => ?_) (fun b7 => ?_)
        · skip
          refine pw_iconst (v := (4 : Int32)) (aX12_meantPlace 70 rfl) rfl ?_
          refine pw_istoren (L2 := [(3, .int ((4 : Int32))), (6, .int ((FL 153 (FI 121 92).toInt.toNat).toInt32)), (4, .long ((0 : Int64))), (0, .ref (base + 121)), (1, .int (a1)), (2, .int (a2))]) (aX12_meantPlace 71 rfl) rfl ?_
          exact pw_Li (L2 := [(0, .ref (base + 121)), (1, .int (a1)), (2, .int (a2)), (3, .int ((4 : Int32))), (4, .long ((0 : Int64))), (6, .int ((FL 153 (FI 121 92).toInt.toNat).toInt32))]) [3, 5, 4, 0, 1, 2] (rX12_meantPlace_125 hkb a1 a2 ((4 : Int32)) ((0 : Int64)) ((FL 153 (FI 121 92).toInt.toNat).toInt32) n sl SH (h_up FI 121 92 ((FI 121 92) + ((1 : Int32)))) FL FR hok  ) ⟨rfl, rfl, rfl, rfl, rfl, rfl, trivial⟩
        · skip
          exact pw_Li (L2 := [(0, .ref (base + 121)), (1, .int (a1)), (2, .int (a2)), (3, .int ((0 : Int32))), (4, .long ((0 : Int64))), (6, .int ((FL 153 (FI 121 92).toInt.toNat).toInt32))]) [5, 4, 3, 0, 1, 2] (rX12_meantPlace_184 hkb a1 a2 ((0 : Int32)) ((0 : Int64)) ((FL 153 (FI 121 92).toInt.toNat).toInt32) n sl SH (h_up FI 121 92 ((FI 121 92) + ((1 : Int32)))) FL FR hok  ) ⟨rfl, rfl, rfl, rfl, rfl, rfl, trivial⟩
  · skip
    refine pw_aloadn (aX12_meantPlace 8 rfl) rfl ?_
    refine pw_aloadn (aX12_meantPlace 9 rfl) rfl ?_
    refine pw_getr (v := .int (FI 121 92)) (aX12_meantPlace 10 rfl) uf_RX12_656 un_RX12_656 rfl ?_
    refine pw_iconst (v := (1 : Int32)) (aX12_meantPlace 11 rfl) rfl ?_
    refine pw_iadd (aX12_meantPlace 12 rfl) ?_
    refine pw_putri (aX12_meantPlace 13 rfl) uf_RX12_656 (fun _ _ _ => rfl) (fun t9 => ?_)
    refine pw_aloadn (aX12_meantPlace 14 rfl) rfl ?_
    refine pw_iloadn (aX12_meantPlace 15 rfl) rfl ?_
    refine pw_callV (Bs := [.int (a1)]) (rest := []) (aX12_meantPlace 16 rfl) um_RX12_676 ujX12_choice wc_RX12_676.2.2.2.2 (by decide) (by decide) rfl rfl (fun d => rX12_choice hkb (a1) n sl SH (h_up FI 121 92 ((FI 121 92) + ((1 : Int32)))) FL FR hok) (fun v9 n9 sl9 SH9 FI9 FL9 FR9 hok9 _ => ?_)
    show pw _ _ _ _ _ _ _ 29 _ [.long (v9)] _ _
    refine pw_lstore (L2 := [(4, .long (v9)), (3, .int ((0 : Int32))), (0, .ref (base + 121)), (1, .int (a1)), (2, .int (a2))]) (aX12_meantPlace 17 rfl) rfl ?_
    refine pw_aloadn (aX12_meantPlace 18 rfl) rfl ?_
    refine pw_aloadn (aX12_meantPlace 19 rfl) rfl ?_
    refine pw_getr (v := .int (FI9 121 92)) (aX12_meantPlace 20 rfl) uf_RX12_656 un_RX12_656 rfl ?_
    refine pw_iconst (v := (1 : Int32)) (aX12_meantPlace 21 rfl) rfl ?_
    refine pw_iadd (aX12_meantPlace 22 rfl) ?_
    refine pw_putri (aX12_meantPlace 23 rfl) uf_RX12_656 (fun _ _ _ => rfl) (fun t11 => ?_)
    refine pw_iconst (v := (1 : Int32)) (aX12_meantPlace 24 rfl) rfl ?_
    refine pw_istoren (L2 := [(3, .int ((1 : Int32))), (4, .long (v9)), (0, .ref (base + 121)), (1, .int (a1)), (2, .int (a2))]) (aX12_meantPlace 25 rfl) rfl ?_
    refine pw_goto (tgt := 184) (aX12_meantPlace 26 rfl) (by decide) ?_
    exact pw_Li (L2 := [(0, .ref (base + 121)), (1, .int (a1)), (2, .int (a2)), (3, .int ((1 : Int32))), (4, .long (v9)), (6, .int 0)]) [3, 4, 0, 1, 2] (rX12_meantPlace_184 hkb a1 a2 ((1 : Int32)) (v9) 0 n9 sl9 SH9 (h_up FI9 121 92 ((FI9 121 92) + ((1 : Int32)))) FL9 FR9 hok9  ) ⟨rfl, rfl, rfl, rfl, rfl, trivial⟩
set_option maxHeartbeats 4000000 in
set_option maxRecDepth 100000 in
theorem rX12_meantLocation_73 {sk : xK} {base N d : Nat} {K30 : Int32 → Int32 → Nat → Nat → (Nat → Nat × Nat) → (Nat → Nat → Int32) → (Nat → Nat → Int64) → (Nat → Nat → Option Nat) → Unit → hS → Prop} (hkb : x_kb sk base) (a1 : Int32) (l2i : Int32) (l3i : Int32) (n sl : Nat) (SH : Nat → Nat × Nat) (FI : Nat → Nat → Int32) (FL : Nat → Nat → Int64) (FR : Nat → Nat → Option Nat) (hok : pk n SH FR)  (hK30 : ∀ (l2i : Int32) (l3i : Int32) (n sl : Nat) (SH : Nat → Nat × Nat) (FI : Nat → Nat → Int32) (FL : Nat → Nat → Int64) (FR : Nat → Nat → Option Nat), pk n SH FR → pw pj_V sk base N d none 256 30 [(0, .ref (base + 121)), (1, .int (a1)), (2, .int (l2i)), (3, .int (l3i))] [] (n, sl, SH, FI, FL, FR) (K30 l2i l3i n sl SH FI FL FR)) : pw pj_V sk base N d none 256 73 [(0, .ref (base + 121)), (1, .int (a1)), (2, .int (l2i)), (3, .int (l3i))] [] (n, sl, SH, FI, FL, FR) (RX12_meantLocation_73 K30 a1 l2i n sl SH FI FL FR) := by
  unfold RX12_meantLocation_73
  refine pw_aloadn (aX12_meantLocation 45 rfl) rfl ?_
  refine pw_aloadn (aX12_meantLocation 46 rfl) rfl ?_
  refine pw_getr (v := .int (FI 121 92)) (aX12_meantLocation 47 rfl) uf_RX12_656 un_RX12_656 rfl ?_
  refine pw_iconst (v := (1 : Int32)) (aX12_meantLocation 48 rfl) rfl ?_
  refine pw_iadd (aX12_meantLocation 49 rfl) ?_
  refine pw_putri (aX12_meantLocation 50 rfl) uf_RX12_656 (fun _ _ _ => rfl) (fun t1 => ?_)
  refine pw_iloadn (aX12_meantLocation 51 rfl) rfl ?_
  refine pw_iconst (v := (1 : Int32)) (aX12_meantLocation 52 rfl) rfl ?_
  refine pw_iadd (aX12_meantLocation 53 rfl) ?_
  refine pw_istoren (L2 := [(2, .int ((l2i) + ((1 : Int32)))), (0, .ref (base + 121)), (1, .int (a1)), (3, .int (l3i))]) (aX12_meantLocation 54 rfl) rfl ?_
  refine pw_aloadn (aX12_meantLocation 55 rfl) rfl ?_
  refine pw_bipush (v := (44 : Int32)) (aX12_meantLocation 56 rfl) rfl ?_
  refine pw_cf (pw_callV (Bs := [.int ((44 : Int32))]) (rest := []) (aX12_meantLocation 57 rfl) um_RX12_669 ujX12_keepsSign wc_RX12_669.2.2.2.2 (by decide) (by decide) rfl rfl (fun d => rX12_keepsSign hkb ((44 : Int32)) n sl SH (h_up FI 121 92 ((FI 121 92) + ((1 : Int32)))) FL FR hok) (fun v1 n1 sl1 SH1 FI1 FL1 FR1 _ hC => ?_))
  obtain ⟨rfl, hC⟩ := hC; cases hC
  show pw _ _ _ _ _ _ _ 93 _ [.int (fX12_keepsSign ((44 : Int32)) SH (h_up FI 121 92 ((FI 121 92) + ((1 : Int32)))) FL FR)] _ _
  refine pw_istoren (L2 := [(3, .int (fX12_keepsSign ((44 : Int32)) SH (h_up FI 121 92 ((FI 121 92) + ((1 : Int32)))) FL FR)), (2, .int ((l2i) + ((1 : Int32)))), (0, .ref (base + 121)), (1, .int (a1))]) (aX12_meantLocation 58 rfl) rfl ?_
  refine pw_aloadn (aX12_meantLocation 59 rfl) rfl ?_
  refine pw_aloadn (aX12_meantLocation 60 rfl) rfl ?_
  refine pw_getr (v := .int ((FI 121 92) + ((1 : Int32)))) (aX12_meantLocation 61 rfl) uf_RX12_656 un_RX12_656 rfl ?_
  refine pw_iconst (v := (1 : Int32)) (aX12_meantLocation 62 rfl) rfl ?_
  refine pw_iadd (aX12_meantLocation 63 rfl) ?_
  refine pw_putri (aX12_meantLocation 64 rfl) uf_RX12_656 (fun _ _ _ => rfl) (fun t3 => ?_)
  refine pw_goto (tgt := 30) (aX12_meantLocation 65 rfl) (by decide) ?_
  exact pw_Li (L2 := [(0, .ref (base + 121)), (1, .int (a1)), (2, .int ((l2i) + ((1 : Int32)))), (3, .int (fX12_keepsSign ((44 : Int32)) SH (h_up FI 121 92 ((FI 121 92) + ((1 : Int32)))) FL FR))]) [3, 2, 0, 1] (hK30 ((l2i) + ((1 : Int32))) (fX12_keepsSign ((44 : Int32)) SH (h_up FI 121 92 ((FI 121 92) + ((1 : Int32)))) FL FR) n sl SH (h_up (h_up FI 121 92 ((FI 121 92) + ((1 : Int32)))) 121 92 (((FI 121 92) + ((1 : Int32))) + ((1 : Int32)))) FL FR hok) ⟨rfl, rfl, rfl, rfl, trivial⟩
set_option maxHeartbeats 4000000 in
set_option maxRecDepth 100000 in
theorem bX12_meantLocation_30 {sk : xK} {base N d : Nat} {K30 : Int32 → Int32 → Nat → Nat → (Nat → Nat × Nat) → (Nat → Nat → Int32) → (Nat → Nat → Int64) → (Nat → Nat → Option Nat) → Unit → hS → Prop} (hkb : x_kb sk base) (a1 : Int32) (l2i : Int32) (l3i : Int32)  (n sl : Nat) (SH : Nat → Nat × Nat) (FI : Nat → Nat → Int32) (FL : Nat → Nat → Int64) (FR : Nat → Nat → Option Nat) (hok : pk n SH FR)  (hK30 : ∀ (l2i : Int32) (l3i : Int32) (n sl : Nat) (SH : Nat → Nat × Nat) (FI : Nat → Nat → Int32) (FL : Nat → Nat → Int64) (FR : Nat → Nat → Option Nat), pk n SH FR → pw pj_V sk base N d none 256 30 [(0, .ref (base + 121)), (1, .int (a1)), (2, .int (l2i)), (3, .int (l3i))] [] (n, sl, SH, FI, FL, FR) (K30 l2i l3i n sl SH FI FL FR)) : pw pj_V sk base (N + 1) d none 256 30 [(0, .ref (base + 121)), (1, .int (a1)), (2, .int (l2i)), (3, .int (l3i))] [] (n, sl, SH, FI, FL, FR) (BX12_meantLocation_30 K30 a1 l2i l3i n sl SH FI FL FR) := by
  unfold BX12_meantLocation_30
  refine pd_iloadn (aX12_meantLocation 19 rfl) rfl ?_
  refine pw_ifeq (tgt := 107) (aX12_meantLocation 20 rfl) (by decide) (fun b0 => ?_) (fun b0 => ?_)
  · skip
    refine pw_iloadn (aX12_meantLocation 66 rfl) rfl ?_
    refine pw_ifne (tgt := 112) (aX12_meantLocation 67 rfl) (by decide) (fun b1 => ?_) (fun b1 => ?_)
    · skip
      exact pw_vret (aX12_meantLocation 68 rfl) hok
    · skip
      refine pw_aloadn (aX12_meantLocation 69 rfl) rfl ?_
      refine pw_iloadn (aX12_meantLocation 70 rfl) rfl ?_
      refine pw_putri (aX12_meantLocation 71 rfl) uf_RX12_659 (fun _ _ _ => rfl) (fun t3 => ?_)
      refine pw_aloadn (aX12_meantLocation 72 rfl) rfl ?_
      refine pw_iconst (v := (1 : Int32)) (aX12_meantLocation 73 rfl) rfl ?_
      refine pw_putri (aX12_meantLocation 74 rfl) uf_RX12_662 (fun _ _ _ => rfl) (fun t4 => ?_)
      exact pw_vret (aX12_meantLocation 75 rfl) hok
  · skip
    refine pw_aloadn (aX12_meantLocation 21 rfl) rfl ?_
    refine pw_iloadn (aX12_meantLocation 22 rfl) rfl ?_
    refine pw_iloadn (aX12_meantLocation 23 rfl) rfl ?_
    refine pw_callV (Bs := [.int (a1), .int (l2i)]) (rest := []) (aX12_meantLocation 24 rfl) um_RX12_672 ujX12_meantPlace wc_RX12_672.2.2.2.2 (by decide) (by decide) rfl rfl (fun d => rX12_meantPlace hkb (a1) (l2i) n sl SH FI FL FR hok) (fun v4 n4 sl4 SH4 FI4 FL4 FR4 hok4 _ => ?_)
    show pw _ _ _ _ _ _ _ 40 _ [] _ _
    refine pw_aloadn (aX12_meantLocation 25 rfl) rfl ?_
    refine pw_aloadn (aX12_meantLocation 26 rfl) rfl ?_
    refine pw_getr (v := .int (FI4 121 92)) (aX12_meantLocation 27 rfl) uf_RX12_656 un_RX12_656 rfl ?_
    refine pw_iconst (v := (1 : Int32)) (aX12_meantLocation 28 rfl) rfl ?_
    refine pw_iadd (aX12_meantLocation 29 rfl) ?_
    refine pw_putri (aX12_meantLocation 30 rfl) uf_RX12_656 (fun _ _ _ => rfl) (fun t6 => ?_)
    refine pw_iloadn (aX12_meantLocation 31 rfl) rfl ?_
    refine pw_ifeq (tgt := 73) (aX12_meantLocation 32 rfl) (by decide) (fun b6 => ?_) (fun b6 => ?_)
    · skip
      exact pw_Li (L2 := [(0, .ref (base + 121)), (1, .int (a1)), (2, .int (l2i)), (3, .int (l3i))]) [0, 1, 2, 3] (rX12_meantLocation_73 hkb a1 (l2i) (l3i) n4 sl4 SH4 (h_up FI4 121 92 ((FI4 121 92) + ((1 : Int32)))) FL4 FR4 hok4  hK30) ⟨rfl, rfl, rfl, rfl, trivial⟩
    · skip
      refine pw_aloadn (aX12_meantLocation 33 rfl) rfl ?_
      refine pw_getr (v := .ref (base + 171)) (aX12_meantLocation 34 rfl) uf_RX12_172 un_RX12_172 (congrArg (fun r => va_rf (h_rf base r)) (q121_98 (hok4).2.1)) ?_
      refine pw_iloadn (aX12_meantLocation 35 rfl) rfl ?_
      refine pw_bipush (v := (8 : Int32)) (aX12_meantLocation 36 rfl) rfl ?_
      refine pw_aloadn (aX12_meantLocation 37 rfl) rfl ?_
      refine pw_getr (v := .ref (base + 153)) (aX12_meantLocation 38 rfl) uf_RX12_117 un_RX12_117 (congrArg (fun r => va_rf (h_rf base r)) (q121_66 (hok4).2.1)) ?_
      refine pw_aloadn (aX12_meantLocation 39 rfl) rfl ?_
      refine pw_getr (v := .int ((FI4 121 92) + ((1 : Int32)))) (aX12_meantLocation 40 rfl) uf_RX12_656 un_RX12_656 rfl ?_
      refine pw_laldr (c := 153) (ix := ((FI4 121 92) + ((1 : Int32))).toInt.toNat) (aX12_meantLocation 41 rfl) rfl (fun _ => ?_)
      refine pw_l2i (aX12_meantLocation 42 rfl) ?_
      refine pw_imul (aX12_meantLocation 43 rfl) ?_
      refine pw_iastr (c := 171) (ix := (l2i).toInt.toNat) (aX12_meantLocation 44 rfl) rfl (fun _ => ?_)
      exact pw_Li (L2 := [(0, .ref (base + 121)), (1, .int (a1)), (2, .int (l2i)), (3, .int (l3i))]) [0, 1, 2, 3] (rX12_meantLocation_73 hkb a1 (l2i) (l3i) n4 sl4 SH4 (h_up (h_up FI4 121 92 ((FI4 121 92) + ((1 : Int32)))) 171 (l2i).toInt.toNat (((8 : Int32)) * ((FL4 153 ((FI4 121 92) + ((1 : Int32))).toInt.toNat).toInt32))) FL4 FR4 hok4  hK30) ⟨rfl, rfl, rfl, rfl, trivial⟩
theorem gX12_meantLocation_30 {sk : xK} {base d : Nat}  (hkb : x_kb sk base) (a1 : Int32) (N : Nat) :  ∀ (l2i : Int32) (l3i : Int32)  (n sl : Nat) (SH : Nat → Nat × Nat) (FI : Nat → Nat → Int32) (FL : Nat → Nat → Int64) (FR : Nat → Nat → Option Nat), pk n SH FR → pw pj_V sk base N d none 256 30 [(0, .ref (base + 121)), (1, .int (a1)), (2, .int (l2i)), (3, .int (l3i))] [] (n, sl, SH, FI, FL, FR) (GX12_meantLocation_30  a1 (N + 1) l2i l3i n sl SH FI FL FR) := by
  induction N with
  | zero => intros; exact pw_0
  | succ N ih => intro   l2i l3i  n sl SH FI FL FR hok; exact bX12_meantLocation_30 hkb a1 l2i l3i  n sl SH FI FL FR hok  (ih  )
theorem rX12_meantLocation_30 {sk : xK} {base N d : Nat}  (hkb : x_kb sk base) (a1 : Int32) (l2i : Int32) (l3i : Int32)  (n sl : Nat) (SH : Nat → Nat × Nat) (FI : Nat → Nat → Int32) (FL : Nat → Nat → Int64) (FR : Nat → Nat → Option Nat) (hok : pk n SH FR)   : pw pj_V sk base N d none 256 30 [(0, .ref (base + 121)), (1, .int (a1)), (2, .int (l2i)), (3, .int (l3i))] [] (n, sl, SH, FI, FL, FR) (RX12_meantLocation_30  a1 l2i l3i n sl SH FI FL FR) := pw_cons (gX12_meantLocation_30 hkb a1 N   l2i l3i  n sl SH FI FL FR hok) (fun _ _ h => ⟨_, h⟩)
set_option maxHeartbeats 4000000 in
set_option maxRecDepth 100000 in
theorem rX12_meantLocation {sk : xK} {base N d : Nat} (hkb : x_kb sk base) (a1 : Int32) (n sl : Nat) (SH : Nat → Nat × Nat) (FI : Nat → Nat → Int32) (FL : Nat → Nat → Int64) (FR : Nat → Nat → Option Nat) (hok : pk n SH FR)  : pw pj_V sk base N d none 256 0 [(0, .ref (base + 121)), (1, .int (a1))] [] (n, sl, SH, FI, FL, FR) (RX12_meantLocation a1 n sl SH FI FL FR) := by
  unfold RX12_meantLocation
  refine pw_aloadn (aX12_meantLocation 0 rfl) rfl ?_
  refine pw_bipush (v := (123 : Int32)) (aX12_meantLocation 1 rfl) rfl ?_
  refine pw_cf (pw_callV (Bs := [.int ((123 : Int32))]) (rest := []) (aX12_meantLocation 2 rfl) um_RX12_669 ujX12_keepsSign wc_RX12_669.2.2.2.2 (by decide) (by decide) rfl rfl (fun d => rX12_keepsSign hkb ((123 : Int32)) n sl SH FI FL FR hok) (fun v0 n0 sl0 SH0 FI0 FL0 FR0 _ hC => ?_))
  obtain ⟨rfl, hC⟩ := hC; cases hC
  show pw _ _ _ _ _ _ _ 6 _ [.int (fX12_keepsSign ((123 : Int32)) SH FI FL FR)] _ _
  refine pw_ifne (tgt := 16) (aX12_meantLocation 3 rfl) (by decide) (fun b1 => ?_) (fun b1 => ?_)
  · skip
    refine pw_aloadn (aX12_meantLocation 4 rfl) rfl ?_
    refine pw_iloadn (aX12_meantLocation 5 rfl) rfl ?_
    refine pw_iconst (v := (0 : Int32)) (aX12_meantLocation 6 rfl) rfl ?_
    refine pw_callV (Bs := [.int (a1), .int ((0 : Int32))]) (rest := []) (aX12_meantLocation 7 rfl) um_RX12_672 ujX12_meantPlace wc_RX12_672.2.2.2.2 (by decide) (by decide) rfl rfl (fun d => rX12_meantPlace hkb (a1) ((0 : Int32)) n sl SH FI FL FR hok) (fun v2 n2 sl2 SH2 FI2 FL2 FR2 hok2 _ => ?_)
    show pw _ _ _ _ _ _ _ 15 _ [] _ _
    exact pw_vret (aX12_meantLocation 8 rfl) hok2
  · skip
    refine pw_iconst (v := (0 : Int32)) (aX12_meantLocation 9 rfl) rfl ?_
    refine pw_istoren (L2 := [(2, .int ((0 : Int32))), (0, .ref (base + 121)), (1, .int (a1))]) (aX12_meantLocation 10 rfl) rfl ?_
    refine pw_aloadn (aX12_meantLocation 11 rfl) rfl ?_
    refine pw_aloadn (aX12_meantLocation 12 rfl) rfl ?_
    refine pw_getr (v := .int (FI 121 92)) (aX12_meantLocation 13 rfl) uf_RX12_656 un_RX12_656 rfl ?_
    refine pw_iconst (v := (1 : Int32)) (aX12_meantLocation 14 rfl) rfl ?_
    refine pw_iadd (aX12_meantLocation 15 rfl) ?_
    refine pw_putri (aX12_meantLocation 16 rfl) uf_RX12_656 (fun _ _ _ => rfl) (fun t4 => ?_)
    refine pw_iconst (v := (1 : Int32)) (aX12_meantLocation 17 rfl) rfl ?_
    refine pw_istoren (L2 := [(3, .int ((1 : Int32))), (2, .int ((0 : Int32))), (0, .ref (base + 121)), (1, .int (a1))]) (aX12_meantLocation 18 rfl) rfl ?_
    exact pw_Li (L2 := [(0, .ref (base + 121)), (1, .int (a1)), (2, .int ((0 : Int32))), (3, .int ((1 : Int32)))]) [3, 2, 0, 1] (rX12_meantLocation_30 hkb a1 ((0 : Int32)) ((1 : Int32)) n sl SH (h_up FI 121 92 ((FI 121 92) + ((1 : Int32)))) FL FR hok  ) ⟨rfl, rfl, rfl, rfl, trivial⟩
set_option maxHeartbeats 4000000 in
set_option maxRecDepth 100000 in
theorem rX12_means_353 {sk : xK} {base N d : Nat} {K233 : Int32 → Nat → Nat → (Nat → Nat × Nat) → (Nat → Nat → Int32) → (Nat → Nat → Int64) → (Nat → Nat → Option Nat) → Int32 → hS → Prop} (hkb : x_kb sk base) (a1 : Int32) (a2 : Int64) (l4i : Int32) (l5i : Int32) (l6l : Int64) (l8l : Int64) (n sl : Nat) (SH : Nat → Nat × Nat) (FI : Nat → Nat → Int32) (FL : Nat → Nat → Int64) (FR : Nat → Nat → Option Nat) (hok : pk n SH FR)  (hK233 : ∀ (l4i : Int32) (l5i : Int32) (l6l : Int64) (l8l : Int64) (n sl : Nat) (SH : Nat → Nat × Nat) (FI : Nat → Nat → Int32) (FL : Nat → Nat → Int64) (FR : Nat → Nat → Option Nat), pk n SH FR → pw pj_I sk base N d none 253 233 [(0, .ref (base + 121)), (1, .int (a1)), (2, .long (a2)), (4, .int (l4i)), (5, .int (l5i)), (6, .long (l6l)), (8, .long (l8l))] [] (n, sl, SH, FI, FL, FR) (K233 l4i n sl SH FI FL FR)) : pw pj_I sk base N d none 253 353 [(0, .ref (base + 121)), (1, .int (a1)), (2, .long (a2)), (4, .int (l4i)), (5, .int (l5i)), (6, .long (l6l)), (8, .long (l8l))] [] (n, sl, SH, FI, FL, FR) (RX12_means_353 K233 a1 a2 l4i n sl SH FI FL FR) := by
  unfold RX12_means_353
  refine pw_iinc (v := (l4i) + (1 : Int32)) (L2 := [(4, .int ((l4i) + (1 : Int32))), (0, .ref (base + 121)), (1, .int (a1)), (2, .long (a2)), (5, .int (l5i)), (6, .long (l6l)), (8, .long (l8l))]) (aX12_means 199 rfl) rfl rfl rfl ?_
  refine pw_goto (tgt := 233) (aX12_means 200 rfl) (by decide) ?_
  exact pw_Li (L2 := [(0, .ref (base + 121)), (1, .int (a1)), (2, .long (a2)), (4, .int ((l4i) + (1 : Int32))), (5, .int (l5i)), (6, .long (l6l)), (8, .long (l8l))]) [3, 0, 1, 2, 4, 5, 6] (hK233 ((l4i) + (1 : Int32)) (l5i) (l6l) (l8l) n sl SH FI FL FR hok) ⟨rfl, rfl, rfl, rfl, rfl, rfl, rfl, trivial⟩
set_option maxHeartbeats 4000000 in
set_option maxRecDepth 100000 in
theorem bX12_means_306 {sk : xK} {base N d : Nat} {K233 : Int32 → Nat → Nat → (Nat → Nat × Nat) → (Nat → Nat → Int32) → (Nat → Nat → Int64) → (Nat → Nat → Option Nat) → Int32 → hS → Prop} {K306 : Int32 → Int32 → Nat → Nat → (Nat → Nat × Nat) → (Nat → Nat → Int32) → (Nat → Nat → Int64) → (Nat → Nat → Option Nat) → Int32 → hS → Prop} (hkb : x_kb sk base) (a1 : Int32) (a2 : Int64) (l4i : Int32) (l5i : Int32) (l6l : Int64) (l8l : Int64) (n sl : Nat) (SH : Nat → Nat × Nat) (FI : Nat → Nat → Int32) (FL : Nat → Nat → Int64) (FR : Nat → Nat → Option Nat) (hok : pk n SH FR)  (hK233 : ∀ (l4i : Int32) (l5i : Int32) (l6l : Int64) (l8l : Int64) (n sl : Nat) (SH : Nat → Nat × Nat) (FI : Nat → Nat → Int32) (FL : Nat → Nat → Int64) (FR : Nat → Nat → Option Nat), pk n SH FR → pw pj_I sk base N d none 253 233 [(0, .ref (base + 121)), (1, .int (a1)), (2, .long (a2)), (4, .int (l4i)), (5, .int (l5i)), (6, .long (l6l)), (8, .long (l8l))] [] (n, sl, SH, FI, FL, FR) (K233 l4i n sl SH FI FL FR)) (hK306 : ∀ (l4i : Int32) (l5i : Int32) (l6l : Int64) (l8l : Int64) (n sl : Nat) (SH : Nat → Nat × Nat) (FI : Nat → Nat → Int32) (FL : Nat → Nat → Int64) (FR : Nat → Nat → Option Nat), pk n SH FR → pw pj_I sk base N d none 253 306 [(0, .ref (base + 121)), (1, .int (a1)), (2, .long (a2)), (4, .int (l4i)), (5, .int (l5i)), (6, .long (l6l)), (8, .long (l8l))] [] (n, sl, SH, FI, FL, FR) (K306 l4i l5i n sl SH FI FL FR)) : pw pj_I sk base (N + 1) d none 253 306 [(0, .ref (base + 121)), (1, .int (a1)), (2, .long (a2)), (4, .int (l4i)), (5, .int (l5i)), (6, .long (l6l)), (8, .long (l8l))] [] (n, sl, SH, FI, FL, FR) (BX12_means_306 K233 K306 a1 a2 l4i l5i n sl SH FI FL FR) := by
  unfold BX12_means_306
  refine pd_iload (aX12_means 173 rfl) rfl ?_
  refine pw_i2l (aX12_means 174 rfl) ?_
  refine pw_aloadn (aX12_means 175 rfl) rfl ?_
  refine pw_getr (v := .ref (base + 170)) (aX12_means 176 rfl) uf_RX12_169 un_RX12_169 (congrArg (fun r => va_rf (h_rf base r)) (q121_97 (hok).2.1)) ?_
  refine pw_iload (aX12_means 177 rfl) rfl ?_
  refine pw_laldr (c := 170) (ix := (l4i).toInt.toNat) (aX12_means 178 rfl) rfl (fun _ => ?_)
  refine pw_lcge (tgt := 353) (aX12_means 179 rfl) (aX12_means 180 rfl) (by decide) (fun b0 => ?_) (fun b0 => ?_)
  · skip
    refine pw_aloadn (aX12_means 181 rfl) rfl ?_
    refine pw_getr (v := .ref (base + 147)) (aX12_means 182 rfl) uf_RX12_96 un_RX12_96 (congrArg (fun r => va_rf (h_rf base r)) (q121_52 (hok).2.1)) ?_
    refine pw_sipush (v := (600 : Int32)) (aX12_means 183 rfl) rfl ?_
    refine pw_iload (aX12_means 184 rfl) rfl ?_
    refine pw_imul (aX12_means 185 rfl) ?_
    refine pw_iload (aX12_means 186 rfl) rfl ?_
    refine pw_iadd (aX12_means 187 rfl) ?_
    refine pw_aloadn (aX12_means 188 rfl) rfl ?_
    refine pw_getr (v := .ref (base + 172)) (aX12_means 189 rfl) uf_RX12_175 un_RX12_175 (congrArg (fun r => va_rf (h_rf base r)) (q121_99 (hok).2.1)) ?_
    refine pw_bipush (v := (64 : Int32)) (aX12_means 190 rfl) rfl ?_
    refine pw_iload (aX12_means 191 rfl) rfl ?_
    refine pw_imul (aX12_means 192 rfl) ?_
    refine pw_iload (aX12_means 193 rfl) rfl ?_
    refine pw_iadd (aX12_means 194 rfl) ?_
    refine pw_ialdr (c := 172) (ix := ((((64 : Int32)) * (l4i)) + (l5i)).toInt.toNat) (aX12_means 195 rfl) rfl (fun _ => ?_)
    refine pw_iastr (c := 147) (ix := ((((600 : Int32)) * (l4i)) + (l5i)).toInt.toNat) (aX12_means 196 rfl) rfl (fun _ => ?_)
    refine pw_iinc (v := (l5i) + (1 : Int32)) (L2 := [(5, .int ((l5i) + (1 : Int32))), (0, .ref (base + 121)), (1, .int (a1)), (2, .long (a2)), (4, .int (l4i)), (6, .long (l6l)), (8, .long (l8l))]) (aX12_means 197 rfl) rfl rfl rfl ?_
    refine pw_goto (tgt := 306) (aX12_means 198 rfl) (by decide) ?_
    exact pw_Li (L2 := [(0, .ref (base + 121)), (1, .int (a1)), (2, .long (a2)), (4, .int (l4i)), (5, .int ((l5i) + (1 : Int32))), (6, .long (l6l)), (8, .long (l8l))]) [4, 0, 1, 2, 3, 5, 6] (hK306 (l4i) ((l5i) + (1 : Int32)) (l6l) (l8l) n sl SH (h_up FI 147 ((((600 : Int32)) * (l4i)) + (l5i)).toInt.toNat (FI 172 ((((64 : Int32)) * (l4i)) + (l5i)).toInt.toNat)) FL FR hok) ⟨rfl, rfl, rfl, rfl, rfl, rfl, rfl, trivial⟩
  · skip
    exact pw_Li (L2 := [(0, .ref (base + 121)), (1, .int (a1)), (2, .long (a2)), (4, .int (l4i)), (5, .int (l5i)), (6, .long (l6l)), (8, .long (l8l))]) [0, 1, 2, 3, 4, 5, 6] (rX12_means_353 hkb a1 a2 (l4i) (l5i) (l6l) (l8l) n sl SH FI FL FR hok  hK233) ⟨rfl, rfl, rfl, rfl, rfl, rfl, rfl, trivial⟩
theorem gX12_means_306 {sk : xK} {base d : Nat} {K233 : Int32 → Nat → Nat → (Nat → Nat × Nat) → (Nat → Nat → Int32) → (Nat → Nat → Int64) → (Nat → Nat → Option Nat) → Int32 → hS → Prop} (hkb : x_kb sk base) (a1 : Int32) (a2 : Int64) (N : Nat) : (∀ (l4i : Int32) (l5i : Int32) (l6l : Int64) (l8l : Int64) (n sl : Nat) (SH : Nat → Nat × Nat) (FI : Nat → Nat → Int32) (FL : Nat → Nat → Int64) (FR : Nat → Nat → Option Nat), pk n SH FR → pw pj_I sk base N d none 253 233 [(0, .ref (base + 121)), (1, .int (a1)), (2, .long (a2)), (4, .int (l4i)), (5, .int (l5i)), (6, .long (l6l)), (8, .long (l8l))] [] (n, sl, SH, FI, FL, FR) (K233 l4i n sl SH FI FL FR)) →  ∀ (l4i : Int32) (l5i : Int32) (l6l : Int64) (l8l : Int64) (n sl : Nat) (SH : Nat → Nat × Nat) (FI : Nat → Nat → Int32) (FL : Nat → Nat → Int64) (FR : Nat → Nat → Option Nat), pk n SH FR → pw pj_I sk base N d none 253 306 [(0, .ref (base + 121)), (1, .int (a1)), (2, .long (a2)), (4, .int (l4i)), (5, .int (l5i)), (6, .long (l6l)), (8, .long (l8l))] [] (n, sl, SH, FI, FL, FR) (GX12_means_306 K233 a1 a2 (N + 1) l4i l5i n sl SH FI FL FR) := by
  induction N with
  | zero => intros; exact pw_0
  | succ N ih => intro  hK233 l4i l5i l6l l8l n sl SH FI FL FR hok; exact bX12_means_306 hkb a1 a2 l4i l5i l6l l8l n sl SH FI FL FR hok  (fun l4i l5i l6l l8l n sl SH FI FL FR ok => pw_mono (hK233 l4i l5i l6l l8l n sl SH FI FL FR ok) (Nat.le_succ _)) (ih  (fun l4i l5i l6l l8l n sl SH FI FL FR ok => pw_mono (hK233 l4i l5i l6l l8l n sl SH FI FL FR ok) (Nat.le_succ _)))
theorem rX12_means_306 {sk : xK} {base N d : Nat} {K233 : Int32 → Nat → Nat → (Nat → Nat × Nat) → (Nat → Nat → Int32) → (Nat → Nat → Int64) → (Nat → Nat → Option Nat) → Int32 → hS → Prop} (hkb : x_kb sk base) (a1 : Int32) (a2 : Int64) (l4i : Int32) (l5i : Int32) (l6l : Int64) (l8l : Int64) (n sl : Nat) (SH : Nat → Nat × Nat) (FI : Nat → Nat → Int32) (FL : Nat → Nat → Int64) (FR : Nat → Nat → Option Nat) (hok : pk n SH FR)  (hK233 : ∀ (l4i : Int32) (l5i : Int32) (l6l : Int64) (l8l : Int64) (n sl : Nat) (SH : Nat → Nat × Nat) (FI : Nat → Nat → Int32) (FL : Nat → Nat → Int64) (FR : Nat → Nat → Option Nat), pk n SH FR → pw pj_I sk base N d none 253 233 [(0, .ref (base + 121)), (1, .int (a1)), (2, .long (a2)), (4, .int (l4i)), (5, .int (l5i)), (6, .long (l6l)), (8, .long (l8l))] [] (n, sl, SH, FI, FL, FR) (K233 l4i n sl SH FI FL FR)) : pw pj_I sk base N d none 253 306 [(0, .ref (base + 121)), (1, .int (a1)), (2, .long (a2)), (4, .int (l4i)), (5, .int (l5i)), (6, .long (l6l)), (8, .long (l8l))] [] (n, sl, SH, FI, FL, FR) (RX12_means_306 K233 a1 a2 l4i l5i n sl SH FI FL FR) := pw_cons (gX12_means_306 hkb a1 a2 N  hK233 l4i l5i l6l l8l n sl SH FI FL FR hok) (fun _ _ h => ⟨_, h⟩)
set_option maxHeartbeats 4000000 in
set_option maxRecDepth 100000 in
theorem bX12_means_233 {sk : xK} {base N d : Nat} {K233 : Int32 → Nat → Nat → (Nat → Nat × Nat) → (Nat → Nat → Int32) → (Nat → Nat → Int64) → (Nat → Nat → Option Nat) → Int32 → hS → Prop} (hkb : x_kb sk base) (a1 : Int32) (a2 : Int64) (l4i : Int32) (l5i : Int32) (l6l : Int64) (l8l : Int64) (n sl : Nat) (SH : Nat → Nat × Nat) (FI : Nat → Nat → Int32) (FL : Nat → Nat → Int64) (FR : Nat → Nat → Option Nat) (hok : pk n SH FR)  (hK233 : ∀ (l4i : Int32) (l5i : Int32) (l6l : Int64) (l8l : Int64) (n sl : Nat) (SH : Nat → Nat × Nat) (FI : Nat → Nat → Int32) (FL : Nat → Nat → Int64) (FR : Nat → Nat → Option Nat), pk n SH FR → pw pj_I sk base N d none 253 233 [(0, .ref (base + 121)), (1, .int (a1)), (2, .long (a2)), (4, .int (l4i)), (5, .int (l5i)), (6, .long (l6l)), (8, .long (l8l))] [] (n, sl, SH, FI, FL, FR) (K233 l4i n sl SH FI FL FR)) : pw pj_I sk base (N + 1) d none 253 233 [(0, .ref (base + 121)), (1, .int (a1)), (2, .long (a2)), (4, .int (l4i)), (5, .int (l5i)), (6, .long (l6l)), (8, .long (l8l))] [] (n, sl, SH, FI, FL, FR) (BX12_means_233 K233 a1 a2 l4i n sl SH FI FL FR) := by
  unfold BX12_means_233
  refine pd_iload (aX12_means 132 rfl) rfl ?_
  refine pw_aloadn (aX12_means 133 rfl) rfl ?_
  refine pw_getr (v := .int (FI 121 94)) (aX12_means 134 rfl) uf_RX12_659 un_RX12_659 rfl ?_
  refine pw_icge (tgt := 359) (aX12_means 135 rfl) (by decide) (fun b0 => ?_) (fun b0 => ?_)
  · skip
    refine pw_aloadn (aX12_means 136 rfl) rfl ?_
    refine pw_getr (v := .ref (base + 143)) (aX12_means 137 rfl) uf_RX12_84 un_RX12_84 (congrArg (fun r => va_rf (h_rf base r)) (q121_48 (hok).2.1)) ?_
    refine pw_iload (aX12_means 138 rfl) rfl ?_
    refine pw_aloadn (aX12_means 139 rfl) rfl ?_
    refine pw_getr (v := .ref (base + 169)) (aX12_means 140 rfl) uf_RX12_166 un_RX12_166 (congrArg (fun r => va_rf (h_rf base r)) (q121_96 (hok).2.1)) ?_
    refine pw_iload (aX12_means 141 rfl) rfl ?_
    refine pw_ialdr (c := 169) (ix := (l4i).toInt.toNat) (aX12_means 142 rfl) rfl (fun _ => ?_)
    refine pw_iastr (c := 143) (ix := (l4i).toInt.toNat) (aX12_means 143 rfl) rfl (fun _ => ?_)
    refine pw_aloadn (aX12_means 144 rfl) rfl ?_
    refine pw_getr (v := .ref (base + 144)) (aX12_means 145 rfl) uf_RX12_87 un_RX12_87 (congrArg (fun r => va_rf (h_rf base r)) (q121_49 (hok).2.1)) ?_
    refine pw_iload (aX12_means 146 rfl) rfl ?_
    refine pw_aloadn (aX12_means 147 rfl) rfl ?_
    refine pw_getr (v := .ref (base + 170)) (aX12_means 148 rfl) uf_RX12_169 un_RX12_169 (congrArg (fun r => va_rf (h_rf base r)) (q121_97 (hok).2.1)) ?_
    refine pw_iload (aX12_means 149 rfl) rfl ?_
    refine pw_laldr (c := 170) (ix := (l4i).toInt.toNat) (aX12_means 150 rfl) rfl (fun _ => ?_)
    refine pw_lastr (c := 144) (ix := (l4i).toInt.toNat) (aX12_means 151 rfl) rfl (fun _ => ?_)
    refine pw_aloadn (aX12_means 152 rfl) rfl ?_
    refine pw_getr (v := .ref (base + 145)) (aX12_means 153 rfl) uf_RX12_90 un_RX12_90 (congrArg (fun r => va_rf (h_rf base r)) (q121_50 (hok).2.1)) ?_
    refine pw_iload (aX12_means 154 rfl) rfl ?_
    refine pw_aloadn (aX12_means 155 rfl) rfl ?_
    refine pw_getr (v := .ref (base + 171)) (aX12_means 156 rfl) uf_RX12_172 un_RX12_172 (congrArg (fun r => va_rf (h_rf base r)) (q121_98 (hok).2.1)) ?_
    refine pw_iload (aX12_means 157 rfl) rfl ?_
    refine pw_ialdr (c := 171) (ix := (l4i).toInt.toNat) (aX12_means 158 rfl) rfl (fun _ => ?_)
    refine pw_iastr (c := 145) (ix := (l4i).toInt.toNat) (aX12_means 159 rfl) rfl (fun _ => ?_)
    refine pw_aloadn (aX12_means 160 rfl) rfl ?_
    refine pw_getr (v := .ref (base + 146)) (aX12_means 161 rfl) uf_RX12_93 un_RX12_93 (congrArg (fun r => va_rf (h_rf base r)) (q121_51 (hok).2.1)) ?_
    refine pw_iload (aX12_means 162 rfl) rfl ?_
    refine pw_iconst (v := (0 : Int32)) (aX12_means 163 rfl) rfl ?_
    refine pw_iastr (c := 146) (ix := (l4i).toInt.toNat) (aX12_means 164 rfl) rfl (fun _ => ?_)
    refine pw_aloadn (aX12_means 165 rfl) rfl ?_
    refine pw_getr (v := .ref (base + 169)) (aX12_means 166 rfl) uf_RX12_166 un_RX12_166 (congrArg (fun r => va_rf (h_rf base r)) (q121_96 (hok).2.1)) ?_
    refine pw_iload (aX12_means 167 rfl) rfl ?_
    refine pw_ialdr (c := 169) (ix := (l4i).toInt.toNat) (aX12_means 168 rfl) rfl (fun _ => ?_)
    refine pw_iconst (v := (4 : Int32)) (aX12_means 169 rfl) rfl ?_
    refine pw_icne (tgt := 353) (aX12_means 170 rfl) (by decide) (fun b1 => ?_) (fun b1 => ?_)
    · skip
      refine pw_iconst (v := (0 : Int32)) (aX12_means 171 rfl) rfl ?_
      refine pw_istore (L2 := [(5, .int ((0 : Int32))), (0, .ref (base + 121)), (1, .int (a1)), (2, .long (a2)), (4, .int (l4i)), (6, .long (l6l)), (8, .long (l8l))]) (aX12_means 172 rfl) rfl ?_
      exact pw_Li (L2 := [(0, .ref (base + 121)), (1, .int (a1)), (2, .long (a2)), (4, .int (l4i)), (5, .int ((0 : Int32))), (6, .long (l6l)), (8, .long (l8l))]) [4, 0, 1, 2, 3, 5, 6] (rX12_means_306 hkb a1 a2 (l4i) ((0 : Int32)) (l6l) (l8l) n sl SH (h_up (h_up (h_up FI 143 (l4i).toInt.toNat (FI 169 (l4i).toInt.toNat)) 145 (l4i).toInt.toNat (FI 171 (l4i).toInt.toNat)) 146 (l4i).toInt.toNat ((0 : Int32))) (h_up FL 144 (l4i).toInt.toNat (FL 170 (l4i).toInt.toNat)) FR hok  hK233) ⟨rfl, rfl, rfl, rfl, rfl, rfl, rfl, trivial⟩
    · skip
      exact pw_Li (L2 := [(0, .ref (base + 121)), (1, .int (a1)), (2, .long (a2)), (4, .int (l4i)), (5, .int (l5i)), (6, .long (l6l)), (8, .long (l8l))]) [0, 1, 2, 3, 4, 5, 6] (rX12_means_353 hkb a1 a2 (l4i) (l5i) (l6l) (l8l) n sl SH (h_up (h_up (h_up FI 143 (l4i).toInt.toNat (FI 169 (l4i).toInt.toNat)) 145 (l4i).toInt.toNat (FI 171 (l4i).toInt.toNat)) 146 (l4i).toInt.toNat ((0 : Int32))) (h_up FL 144 (l4i).toInt.toNat (FL 170 (l4i).toInt.toNat)) FR hok  hK233) ⟨rfl, rfl, rfl, rfl, rfl, rfl, rfl, trivial⟩
  · skip
    refine pw_aloadn (aX12_means 201 rfl) rfl ?_
    refine pw_iconst (v := (0 : Int32)) (aX12_means 202 rfl) rfl ?_
    refine pw_iconst (v := (-1 : Int32)) (aX12_means 203 rfl) rfl ?_
    refine pw_callV (Bs := [.int ((0 : Int32)), .int ((-1 : Int32))]) (rest := []) (aX12_means 204 rfl) um_RX12_380 ujX12_tells wc_RX12_380.2.2.2.2 (by decide) (by decide) rfl rfl (fun d => rX12_tells hkb ((0 : Int32)) ((-1 : Int32)) n sl SH FI FL FR hok) (fun v2 n2 sl2 SH2 FI2 FL2 FR2 hok2 _ => ?_)
    show pw _ _ _ _ _ _ _ 365 _ [.int (v2)] _ _
    exact pw_iret (aX12_means 205 rfl) hok2
theorem gX12_means_233 {sk : xK} {base d : Nat}  (hkb : x_kb sk base) (a1 : Int32) (a2 : Int64) (N : Nat) :  ∀ (l4i : Int32) (l5i : Int32) (l6l : Int64) (l8l : Int64) (n sl : Nat) (SH : Nat → Nat × Nat) (FI : Nat → Nat → Int32) (FL : Nat → Nat → Int64) (FR : Nat → Nat → Option Nat), pk n SH FR → pw pj_I sk base N d none 253 233 [(0, .ref (base + 121)), (1, .int (a1)), (2, .long (a2)), (4, .int (l4i)), (5, .int (l5i)), (6, .long (l6l)), (8, .long (l8l))] [] (n, sl, SH, FI, FL, FR) (GX12_means_233  a1 a2 (N + 1) l4i n sl SH FI FL FR) := by
  induction N with
  | zero => intros; exact pw_0
  | succ N ih => intro   l4i l5i l6l l8l n sl SH FI FL FR hok; exact bX12_means_233 hkb a1 a2 l4i l5i l6l l8l n sl SH FI FL FR hok  (ih  )
theorem rX12_means_233 {sk : xK} {base N d : Nat}  (hkb : x_kb sk base) (a1 : Int32) (a2 : Int64) (l4i : Int32) (l5i : Int32) (l6l : Int64) (l8l : Int64) (n sl : Nat) (SH : Nat → Nat × Nat) (FI : Nat → Nat → Int32) (FL : Nat → Nat → Int64) (FR : Nat → Nat → Option Nat) (hok : pk n SH FR)   : pw pj_I sk base N d none 253 233 [(0, .ref (base + 121)), (1, .int (a1)), (2, .long (a2)), (4, .int (l4i)), (5, .int (l5i)), (6, .long (l6l)), (8, .long (l8l))] [] (n, sl, SH, FI, FL, FR) (RX12_means_233  a1 a2 l4i n sl SH FI FL FR) := pw_cons (gX12_means_233 hkb a1 a2 N   l4i l5i l6l l8l n sl SH FI FL FR hok) (fun _ _ h => ⟨_, h⟩)
set_option maxHeartbeats 4000000 in
set_option maxRecDepth 100000 in
theorem rX12_means_187 {sk : xK} {base N d : Nat}  (hkb : x_kb sk base) (a1 : Int32) (a2 : Int64)  (l4i : Int32) (l5i : Int32) (l6l : Int64) (l8l : Int64) (n sl : Nat) (SH : Nat → Nat × Nat) (FI : Nat → Nat → Int32) (FL : Nat → Nat → Int64) (FR : Nat → Nat → Option Nat) (hok : pk n SH FR)   : pw pj_I sk base N d none 253 187 [(0, .ref (base + 121)), (1, .int (a1)), (2, .long (a2)), (4, .int (l4i)), (5, .int (l5i)), (6, .long (l6l)), (8, .long (l8l))] [] (n, sl, SH, FI, FL, FR) (RX12_means_187  a1 a2  n sl SH FI FL FR) := by
  unfold RX12_means_187
  refine pw_aloadn (aX12_means 107 rfl) rfl ?_
  refine pw_iconst (v := (0 : Int32)) (aX12_means 108 rfl) rfl ?_
  refine pw_putri (aX12_means 109 rfl) uf_RX12_299 (fun _ _ _ => rfl) (fun t1 => ?_)
  refine pw_aloadn (aX12_means 110 rfl) rfl ?_
  refine pw_iconst (v := (0 : Int32)) (aX12_means 111 rfl) rfl ?_
  refine pw_putri (aX12_means 112 rfl) uf_RX12_258 (fun _ _ _ => rfl) (fun t2 => ?_)
  refine pw_aloadn (aX12_means 113 rfl) rfl ?_
  refine pw_getr (v := .int (FI 121 93)) (aX12_means 114 rfl) uf_RX12_653 un_RX12_653 rfl ?_
  refine pw_ifeq (tgt := 214) (aX12_means 115 rfl) (by decide) (fun b2 => ?_) (fun b2 => ?_)
  · skip
    refine pw_aloadn (aX12_means 122 rfl) rfl ?_
    refine pw_aloadn (aX12_means 123 rfl) rfl ?_
    refine pw_getr (v := .int (FI 121 94)) (aX12_means 124 rfl) uf_RX12_659 un_RX12_659 rfl ?_
    refine pw_putri (aX12_means 125 rfl) uf_RX12_81 (fun _ _ _ => rfl) (fun t4 => ?_)
    refine pw_aloadn (aX12_means 126 rfl) rfl ?_
    refine pw_aloadn (aX12_means 127 rfl) rfl ?_
    refine pw_getr (v := .int (FI 121 95)) (aX12_means 128 rfl) uf_RX12_662 un_RX12_662 rfl ?_
    refine pw_putri (aX12_means 129 rfl) uf_RX12_354 (fun _ _ _ => rfl) (fun t5 => ?_)
    refine pw_iconst (v := (0 : Int32)) (aX12_means 130 rfl) rfl ?_
    refine pw_istore (L2 := [(4, .int ((0 : Int32))), (0, .ref (base + 121)), (1, .int (a1)), (2, .long (a2)), (5, .int (l5i)), (6, .long (l6l)), (8, .long (l8l))]) (aX12_means 131 rfl) rfl ?_
    exact pw_Li (L2 := [(0, .ref (base + 121)), (1, .int (a1)), (2, .long (a2)), (4, .int ((0 : Int32))), (5, .int (l5i)), (6, .long (l6l)), (8, .long (l8l))]) [3, 0, 1, 2, 4, 5, 6] (rX12_means_233 hkb a1 a2 ((0 : Int32)) (l5i) (l6l) (l8l) n sl SH (h_up (h_up (h_up (h_up FI 121 31 ((0 : Int32))) 121 32 ((0 : Int32))) 121 46 (FI 121 94)) 121 47 (FI 121 95)) FL FR hok  ) ⟨rfl, rfl, rfl, rfl, rfl, rfl, rfl, trivial⟩
  · skip
    refine pw_aloadn (aX12_means 116 rfl) rfl ?_
    refine pw_aloadn (aX12_means 117 rfl) rfl ?_
    refine pw_getr (v := .int (FI 121 93)) (aX12_means 118 rfl) uf_RX12_653 un_RX12_653 rfl ?_
    refine pw_iconst (v := (0 : Int32)) (aX12_means 119 rfl) rfl ?_
    refine pw_callV (Bs := [.int (FI 121 93), .int ((0 : Int32))]) (rest := []) (aX12_means 120 rfl) um_RX12_380 ujX12_tells wc_RX12_380.2.2.2.2 (by decide) (by decide) rfl rfl (fun d => rX12_tells hkb (FI 121 93) ((0 : Int32)) n sl SH (h_up (h_up FI 121 31 ((0 : Int32))) 121 32 ((0 : Int32))) FL FR hok) (fun v5 n5 sl5 SH5 FI5 FL5 FR5 hok5 _ => ?_)
    show pw _ _ _ _ _ _ _ 213 _ [.int (v5)] _ _
    exact pw_iret (aX12_means 121 rfl) hok5
set_option maxHeartbeats 4000000 in
set_option maxRecDepth 100000 in
theorem rX12_means_163 {sk : xK} {base N d : Nat} {K88 : Int32 → Int32 → Nat → Nat → (Nat → Nat × Nat) → (Nat → Nat → Int32) → (Nat → Nat → Int64) → (Nat → Nat → Option Nat) → Int32 → hS → Prop} (hkb : x_kb sk base) (a1 : Int32) (a2 : Int64) (l5i : Int32) (s0i : Int32) (l4i : Int32) (l6l : Int64) (l8l : Int64) (n sl : Nat) (SH : Nat → Nat × Nat) (FI : Nat → Nat → Int32) (FL : Nat → Nat → Int64) (FR : Nat → Nat → Option Nat) (hok : pk n SH FR)  (hK88 : ∀ (l4i : Int32) (l5i : Int32) (l6l : Int64) (l8l : Int64) (n sl : Nat) (SH : Nat → Nat × Nat) (FI : Nat → Nat → Int32) (FL : Nat → Nat → Int64) (FR : Nat → Nat → Option Nat), pk n SH FR → pw pj_I sk base N d none 253 88 [(0, .ref (base + 121)), (1, .int (a1)), (2, .long (a2)), (4, .int (l4i)), (5, .int (l5i)), (6, .long (l6l)), (8, .long (l8l))] [] (n, sl, SH, FI, FL, FR) (K88 l4i l5i n sl SH FI FL FR)) : pw pj_I sk base N d none 253 163 [(0, .ref (base + 121)), (1, .int (a1)), (2, .long (a2)), (4, .int (l4i)), (5, .int (l5i)), (6, .long (l6l)), (8, .long (l8l))] [.int (s0i)] (n, sl, SH, FI, FL, FR) (RX12_means_163 K88 a1 a2 l5i s0i n sl SH FI FL FR) := by
  unfold RX12_means_163
  refine pw_istore (L2 := [(4, .int (s0i)), (0, .ref (base + 121)), (1, .int (a1)), (2, .long (a2)), (5, .int (l5i)), (6, .long (l6l)), (8, .long (l8l))]) (aX12_means 95 rfl) rfl ?_
  refine pw_aloadn (aX12_means 96 rfl) rfl ?_
  refine pw_iload (aX12_means 97 rfl) rfl ?_
  refine pw_callV (Bs := [.int (s0i)]) (rest := []) (aX12_means 98 rfl) um_RX12_665 ujX12_meantLocation wc_RX12_665.2.2.2.2 (by decide) (by decide) rfl rfl (fun d => rX12_meantLocation hkb (s0i) n sl SH FI FL FR hok) (fun v0 n0 sl0 SH0 FI0 FL0 FR0 hok0 _ => ?_)
  show pw _ _ _ _ _ _ _ 171 _ [] _ _
  refine pw_aloadn (aX12_means 99 rfl) rfl ?_
  refine pw_aloadn (aX12_means 100 rfl) rfl ?_
  refine pw_getr (v := .int (FI0 121 92)) (aX12_means 101 rfl) uf_RX12_656 un_RX12_656 rfl ?_
  refine pw_iconst (v := (1 : Int32)) (aX12_means 102 rfl) rfl ?_
  refine pw_iadd (aX12_means 103 rfl) ?_
  refine pw_putri (aX12_means 104 rfl) uf_RX12_656 (fun _ _ _ => rfl) (fun t2 => ?_)
  refine pw_iinc (v := (l5i) + (1 : Int32)) (L2 := [(5, .int ((l5i) + (1 : Int32))), (4, .int (s0i)), (0, .ref (base + 121)), (1, .int (a1)), (2, .long (a2)), (6, .long (l6l)), (8, .long (l8l))]) (aX12_means 105 rfl) rfl rfl rfl ?_
  refine pw_goto (tgt := 88) (aX12_means 106 rfl) (by decide) ?_
  exact pw_Li (L2 := [(0, .ref (base + 121)), (1, .int (a1)), (2, .long (a2)), (4, .int (s0i)), (5, .int ((l5i) + (1 : Int32))), (6, .long (l6l)), (8, .long (l8l))]) [4, 3, 0, 1, 2, 5, 6] (hK88 (s0i) ((l5i) + (1 : Int32)) (l6l) (l8l) n0 sl0 SH0 (h_up FI0 121 92 ((FI0 121 92) + ((1 : Int32)))) FL0 FR0 hok0) ⟨rfl, rfl, rfl, rfl, rfl, rfl, rfl, trivial⟩
set_option maxHeartbeats 4000000 in
set_option maxRecDepth 100000 in
theorem rX12_means_162 {sk : xK} {base N d : Nat} {K88 : Int32 → Int32 → Nat → Nat → (Nat → Nat × Nat) → (Nat → Nat → Int32) → (Nat → Nat → Int64) → (Nat → Nat → Option Nat) → Int32 → hS → Prop} (hkb : x_kb sk base) (a1 : Int32) (a2 : Int64) (l5i : Int32) (l4i : Int32) (l6l : Int64) (l8l : Int64) (n sl : Nat) (SH : Nat → Nat × Nat) (FI : Nat → Nat → Int32) (FL : Nat → Nat → Int64) (FR : Nat → Nat → Option Nat) (hok : pk n SH FR)  (hK88 : ∀ (l4i : Int32) (l5i : Int32) (l6l : Int64) (l8l : Int64) (n sl : Nat) (SH : Nat → Nat × Nat) (FI : Nat → Nat → Int32) (FL : Nat → Nat → Int64) (FR : Nat → Nat → Option Nat), pk n SH FR → pw pj_I sk base N d none 253 88 [(0, .ref (base + 121)), (1, .int (a1)), (2, .long (a2)), (4, .int (l4i)), (5, .int (l5i)), (6, .long (l6l)), (8, .long (l8l))] [] (n, sl, SH, FI, FL, FR) (K88 l4i l5i n sl SH FI FL FR)) : pw pj_I sk base N d none 253 162 [(0, .ref (base + 121)), (1, .int (a1)), (2, .long (a2)), (4, .int (l4i)), (5, .int (l5i)), (6, .long (l6l)), (8, .long (l8l))] [] (n, sl, SH, FI, FL, FR) (RX12_means_162 K88 a1 a2 l5i n sl SH FI FL FR) := by
  unfold RX12_means_162
  refine pw_iconst (v := (0 : Int32)) (aX12_means 94 rfl) rfl ?_
  exact pw_Li (L2 := [(0, .ref (base + 121)), (1, .int (a1)), (2, .long (a2)), (4, .int (l4i)), (5, .int (l5i)), (6, .long (l6l)), (8, .long (l8l))]) [0, 1, 2, 3, 4, 5, 6] (rX12_means_163 hkb a1 a2 (l5i) ((0 : Int32)) (l4i) (l6l) (l8l) n sl SH FI FL FR hok  hK88) ⟨rfl, rfl, rfl, rfl, rfl, rfl, rfl, trivial⟩
set_option maxHeartbeats 4000000 in
set_option maxRecDepth 100000 in
theorem bX12_means_88 {sk : xK} {base N d : Nat} {K88 : Int32 → Int32 → Nat → Nat → (Nat → Nat × Nat) → (Nat → Nat → Int32) → (Nat → Nat → Int64) → (Nat → Nat → Option Nat) → Int32 → hS → Prop} (hkb : x_kb sk base) (a1 : Int32) (a2 : Int64) (l4i : Int32) (l5i : Int32) (l6l : Int64) (l8l : Int64) (n sl : Nat) (SH : Nat → Nat × Nat) (FI : Nat → Nat → Int32) (FL : Nat → Nat → Int64) (FR : Nat → Nat → Option Nat) (hok : pk n SH FR)  (hK88 : ∀ (l4i : Int32) (l5i : Int32) (l6l : Int64) (l8l : Int64) (n sl : Nat) (SH : Nat → Nat × Nat) (FI : Nat → Nat → Int32) (FL : Nat → Nat → Int64) (FR : Nat → Nat → Option Nat), pk n SH FR → pw pj_I sk base N d none 253 88 [(0, .ref (base + 121)), (1, .int (a1)), (2, .long (a2)), (4, .int (l4i)), (5, .int (l5i)), (6, .long (l6l)), (8, .long (l8l))] [] (n, sl, SH, FI, FL, FR) (K88 l4i l5i n sl SH FI FL FR)) : pw pj_I sk base (N + 1) d none 253 88 [(0, .ref (base + 121)), (1, .int (a1)), (2, .long (a2)), (4, .int (l4i)), (5, .int (l5i)), (6, .long (l6l)), (8, .long (l8l))] [] (n, sl, SH, FI, FL, FR) (BX12_means_88 K88 a1 a2 l4i l5i n sl SH FI FL FR) := by
  unfold BX12_means_88
  refine pd_iload (aX12_means 54 rfl) rfl ?_
  refine pw_aloadn (aX12_means 55 rfl) rfl ?_
  refine pw_getr (v := .ref (base + 156)) (aX12_means 56 rfl) uf_RX12_126 un_RX12_126 (congrArg (fun r => va_rf (h_rf base r)) (q121_76 (hok).2.1)) ?_
  refine pw_iloadn (aX12_means 57 rfl) rfl ?_
  refine pw_ialdr (c := 156) (ix := (a1).toInt.toNat) (aX12_means 58 rfl) rfl (fun _ => ?_)
  refine pw_icge (tgt := 187) (aX12_means 59 rfl) (by decide) (fun b0 => ?_) (fun b0 => ?_)
  · skip
    refine pw_iload (aX12_means 60 rfl) rfl ?_
    refine pw_ifne (tgt := 187) (aX12_means 61 rfl) (by decide) (fun b1 => ?_) (fun b1 => ?_)
    · skip
      refine pw_aloadn (aX12_means 62 rfl) rfl ?_
      refine pw_getr (v := .ref (base + 153)) (aX12_means 63 rfl) uf_RX12_117 un_RX12_117 (congrArg (fun r => va_rf (h_rf base r)) (q121_66 (hok).2.1)) ?_
      refine pw_aloadn (aX12_means 64 rfl) rfl ?_
      refine pw_getr (v := .int (FI 121 92)) (aX12_means 65 rfl) uf_RX12_656 un_RX12_656 rfl ?_
      refine pw_laldr (c := 153) (ix := (FI 121 92).toInt.toNat) (aX12_means 66 rfl) rfl (fun _ => ?_)
      refine pw_lstore (L2 := [(6, .long (FL 153 (FI 121 92).toInt.toNat)), (0, .ref (base + 121)), (1, .int (a1)), (2, .long (a2)), (4, .int (l4i)), (5, .int (l5i)), (8, .long (l8l))]) (aX12_means 67 rfl) rfl ?_
      refine pw_aloadn (aX12_means 68 rfl) rfl ?_
      refine pw_getr (v := .ref (base + 153)) (aX12_means 69 rfl) uf_RX12_117 un_RX12_117 (congrArg (fun r => va_rf (h_rf base r)) (q121_66 (hok).2.1)) ?_
      refine pw_aloadn (aX12_means 70 rfl) rfl ?_
      refine pw_getr (v := .int (FI 121 92)) (aX12_means 71 rfl) uf_RX12_656 un_RX12_656 rfl ?_
      refine pw_iconst (v := (2 : Int32)) (aX12_means 72 rfl) rfl ?_
      refine pw_iadd (aX12_means 73 rfl) ?_
      refine pw_laldr (c := 153) (ix := ((FI 121 92) + ((2 : Int32))).toInt.toNat) (aX12_means 74 rfl) rfl (fun _ => ?_)
      refine pw_lstore (L2 := [(8, .long (FL 153 ((FI 121 92) + ((2 : Int32))).toInt.toNat)), (6, .long (FL 153 (FI 121 92).toInt.toNat)), (0, .ref (base + 121)), (1, .int (a1)), (2, .long (a2)), (4, .int (l4i)), (5, .int (l5i))]) (aX12_means 75 rfl) rfl ?_
      refine pw_aloadn (aX12_means 76 rfl) rfl ?_
      refine pw_aloadn (aX12_means 77 rfl) rfl ?_
      refine pw_getr (v := .int (FI 121 92)) (aX12_means 78 rfl) uf_RX12_656 un_RX12_656 rfl ?_
      refine pw_iconst (v := (4 : Int32)) (aX12_means 79 rfl) rfl ?_
      refine pw_iadd (aX12_means 80 rfl) ?_
      refine pw_putri (aX12_means 81 rfl) uf_RX12_656 (fun _ _ _ => rfl) (fun t3 => ?_)
      refine pw_aloadn (aX12_means 82 rfl) rfl ?_
      refine pw_lloadn (aX12_means 83 rfl) rfl ?_
      refine pw_lload (aX12_means 84 rfl) rfl ?_
      refine pw_cf (pw_callV (Bs := [.long (a2), .long (FL 153 (FI 121 92).toInt.toNat)]) (rest := []) (aX12_means 85 rfl) um_RX12_242 ujX12_isBelow wc_RX12_242.2.2.2.2 (by decide) (by decide) rfl rfl (fun d => rX12_isBelow hkb (a2) (FL 153 (FI 121 92).toInt.toNat) n sl SH (h_up FI 121 92 ((FI 121 92) + ((4 : Int32)))) FL FR hok) (fun v3 n3 sl3 SH3 FI3 FL3 FR3 _ hC => ?_))
      obtain ⟨e9, hC⟩ := hC; have e9 := e9.symm; subst e9; cases hC
      show pw _ _ _ _ _ _ _ 145 _ [.int (fX12_isBelow (a2) (FL 153 (FI 121 92).toInt.toNat) SH (h_up FI 121 92 ((FI 121 92) + ((4 : Int32)))) FL FR)] _ _
      refine pw_ifne (tgt := 162) (aX12_means 86 rfl) (by decide) (fun b4 => ?_) (fun b4 => ?_)
      · skip
        refine pw_aloadn (aX12_means 87 rfl) rfl ?_
        refine pw_lloadn (aX12_means 88 rfl) rfl ?_
        refine pw_lload (aX12_means 89 rfl) rfl ?_
        refine pw_cf (pw_callV (Bs := [.long (a2), .long (FL 153 ((FI 121 92) + ((2 : Int32))).toInt.toNat)]) (rest := []) (aX12_means 90 rfl) um_RX12_242 ujX12_isBelow wc_RX12_242.2.2.2.2 (by decide) (by decide) rfl rfl (fun d => rX12_isBelow hkb (a2) (FL 153 ((FI 121 92) + ((2 : Int32))).toInt.toNat) n sl SH (h_up FI 121 92 ((FI 121 92) + ((4 : Int32)))) FL FR hok) (fun v5 n5 sl5 SH5 FI5 FL5 FR5 _ hC => ?_))
        obtain ⟨e9, hC⟩ := hC; have e9 := e9.symm; subst e9; cases hC
        show pw _ _ _ _ _ _ _ 155 _ [.int (fX12_isBelow (a2) (FL 153 ((FI 121 92) + ((2 : Int32))).toInt.toNat) SH (h_up FI 121 92 ((FI 121 92) + ((4 : Int32)))) FL FR)] _ _
        refine pw_ifeq (tgt := 162) (aX12_means 91 rfl) (by decide) (fun b6 => ?_) (fun b6 => ?_)
        · skip
          exact pw_Li (L2 := [(0, .ref (base + 121)), (1, .int (a1)), (2, .long (a2)), (4, .int (l4i)), (5, .int (l5i)), (6, .long (FL 153 (FI 121 92).toInt.toNat)), (8, .long (FL 153 ((FI 121 92) + ((2 : Int32))).toInt.toNat))]) [6, 5, 0, 1, 2, 3, 4] (rX12_means_162 hkb a1 a2 (l5i) (l4i) (FL 153 (FI 121 92).toInt.toNat) (FL 153 ((FI 121 92) + ((2 : Int32))).toInt.toNat) n sl SH (h_up FI 121 92 ((FI 121 92) + ((4 : Int32)))) FL FR hok  hK88) ⟨rfl, rfl, rfl, rfl, rfl, rfl, rfl, trivial⟩
        · skip
          refine pw_iconst (v := (1 : Int32)) (aX12_means 92 rfl) rfl ?_
          refine pw_goto (tgt := 163) (aX12_means 93 rfl) (by decide) ?_
          exact pw_Li (L2 := [(0, .ref (base + 121)), (1, .int (a1)), (2, .long (a2)), (4, .int (l4i)), (5, .int (l5i)), (6, .long (FL 153 (FI 121 92).toInt.toNat)), (8, .long (FL 153 ((FI 121 92) + ((2 : Int32))).toInt.toNat))]) [6, 5, 0, 1, 2, 3, 4] (rX12_means_163 hkb a1 a2 (l5i) ((1 : Int32)) (l4i) (FL 153 (FI 121 92).toInt.toNat) (FL 153 ((FI 121 92) + ((2 : Int32))).toInt.toNat) n sl SH (h_up FI 121 92 ((FI 121 92) + ((4 : Int32)))) FL FR hok  hK88) ⟨rfl, rfl, rfl, rfl, rfl, rfl, rfl, trivial⟩
      · skip
        exact pw_Li (L2 := [(0, .ref (base + 121)), (1, .int (a1)), (2, .long (a2)), (4, .int (l4i)), (5, .int (l5i)), (6, .long (FL 153 (FI 121 92).toInt.toNat)), (8, .long (FL 153 ((FI 121 92) + ((2 : Int32))).toInt.toNat))]) [6, 5, 0, 1, 2, 3, 4] (rX12_means_162 hkb a1 a2 (l5i) (l4i) (FL 153 (FI 121 92).toInt.toNat) (FL 153 ((FI 121 92) + ((2 : Int32))).toInt.toNat) n sl SH (h_up FI 121 92 ((FI 121 92) + ((4 : Int32)))) FL FR hok  hK88) ⟨rfl, rfl, rfl, rfl, rfl, rfl, rfl, trivial⟩
    · skip
      exact pw_Li (L2 := [(0, .ref (base + 121)), (1, .int (a1)), (2, .long (a2)), (4, .int (l4i)), (5, .int (l5i)), (6, .long (l6l)), (8, .long (l8l))]) [0, 1, 2, 3, 4, 5, 6] (rX12_means_187 hkb a1 a2 (l4i) (l5i) (l6l) (l8l) n sl SH FI FL FR hok  ) ⟨rfl, rfl, rfl, rfl, rfl, rfl, rfl, trivial⟩
  · skip
    exact pw_Li (L2 := [(0, .ref (base + 121)), (1, .int (a1)), (2, .long (a2)), (4, .int (l4i)), (5, .int (l5i)), (6, .long (l6l)), (8, .long (l8l))]) [0, 1, 2, 3, 4, 5, 6] (rX12_means_187 hkb a1 a2 (l4i) (l5i) (l6l) (l8l) n sl SH FI FL FR hok  ) ⟨rfl, rfl, rfl, rfl, rfl, rfl, rfl, trivial⟩
theorem gX12_means_88 {sk : xK} {base d : Nat}  (hkb : x_kb sk base) (a1 : Int32) (a2 : Int64) (N : Nat) :  ∀ (l4i : Int32) (l5i : Int32) (l6l : Int64) (l8l : Int64) (n sl : Nat) (SH : Nat → Nat × Nat) (FI : Nat → Nat → Int32) (FL : Nat → Nat → Int64) (FR : Nat → Nat → Option Nat), pk n SH FR → pw pj_I sk base N d none 253 88 [(0, .ref (base + 121)), (1, .int (a1)), (2, .long (a2)), (4, .int (l4i)), (5, .int (l5i)), (6, .long (l6l)), (8, .long (l8l))] [] (n, sl, SH, FI, FL, FR) (GX12_means_88  a1 a2 (N + 1) l4i l5i n sl SH FI FL FR) := by
  induction N with
  | zero => intros; exact pw_0
  | succ N ih => intro   l4i l5i l6l l8l n sl SH FI FL FR hok; exact bX12_means_88 hkb a1 a2 l4i l5i l6l l8l n sl SH FI FL FR hok  (ih  )
theorem rX12_means_88 {sk : xK} {base N d : Nat}  (hkb : x_kb sk base) (a1 : Int32) (a2 : Int64) (l4i : Int32) (l5i : Int32) (l6l : Int64) (l8l : Int64) (n sl : Nat) (SH : Nat → Nat × Nat) (FI : Nat → Nat → Int32) (FL : Nat → Nat → Int64) (FR : Nat → Nat → Option Nat) (hok : pk n SH FR)   : pw pj_I sk base N d none 253 88 [(0, .ref (base + 121)), (1, .int (a1)), (2, .long (a2)), (4, .int (l4i)), (5, .int (l5i)), (6, .long (l6l)), (8, .long (l8l))] [] (n, sl, SH, FI, FL, FR) (RX12_means_88  a1 a2 l4i l5i n sl SH FI FL FR) := pw_cons (gX12_means_88 hkb a1 a2 N   l4i l5i l6l l8l n sl SH FI FL FR hok) (fun _ _ h => ⟨_, h⟩)
set_option maxHeartbeats 4000000 in
set_option maxRecDepth 100000 in
theorem rX12_means {sk : xK} {base N d : Nat} (hkb : x_kb sk base) (a1 : Int32) (a2 : Int64) (n sl : Nat) (SH : Nat → Nat × Nat) (FI : Nat → Nat → Int32) (FL : Nat → Nat → Int64) (FR : Nat → Nat → Option Nat) (hok : pk n SH FR)  : pw pj_I sk base N d none 253 0 [(0, .ref (base + 121)), (1, .int (a1)), (2, .long (a2))] [] (n, sl, SH, FI, FL, FR) (RX12_means a1 a2 n sl SH FI FL FR) := by
  unfold RX12_means
  refine pw_aloadn (aX12_means 0 rfl) rfl ?_
  refine pw_iconst (v := (0 : Int32)) (aX12_means 1 rfl) rfl ?_
  refine pw_putri (aX12_means 2 rfl) uf_RX12_187 (fun _ _ _ => rfl) (fun t1 => ?_)
  refine pw_iloadn (aX12_means 3 rfl) rfl ?_
  refine pw_iflt (tgt := 17) (aX12_means 4 rfl) (by decide) (fun b1 => ?_) (fun b1 => ?_)
  · skip
    refine pw_iconst (v := (-1 : Int32)) (aX12_means 9 rfl) rfl ?_
    exact pw_iret (aX12_means 10 rfl) hok
  · skip
    refine pw_iloadn (aX12_means 5 rfl) rfl ?_
    refine pw_aloadn (aX12_means 6 rfl) rfl ?_
    refine pw_getr (v := .int (FI 121 74)) (aX12_means 7 rfl) uf_RX12_524 un_RX12_524 rfl ?_
    refine pw_iclt (tgt := 19) (aX12_means 8 rfl) (by decide) (fun b2 => ?_) (fun b2 => ?_)
    · skip
      refine pw_aloadn (aX12_means 11 rfl) rfl ?_
      refine pw_iconst (v := (0 : Int32)) (aX12_means 12 rfl) rfl ?_
      refine pw_putri (aX12_means 13 rfl) uf_RX12_653 (fun _ _ _ => rfl) (fun t4 => ?_)
      refine pw_aloadn (aX12_means 14 rfl) rfl ?_
      refine pw_aloadn (aX12_means 15 rfl) rfl ?_
      refine pw_getr (v := .ref (base + 157)) (aX12_means 16 rfl) uf_RX12_129 un_RX12_129 (congrArg (fun r => va_rf (h_rf base r)) (q121_77 (hok).2.1)) ?_
      refine pw_iloadn (aX12_means 17 rfl) rfl ?_
      refine pw_ialdr (c := 157) (ix := (a1).toInt.toNat) (aX12_means 18 rfl) rfl (fun _ => ?_)
      refine pw_putri (aX12_means 19 rfl) uf_RX12_656 (fun _ _ _ => rfl) (fun t5 => ?_)
      refine pw_aloadn (aX12_means 20 rfl) rfl ?_
      refine pw_iconst (v := (1 : Int32)) (aX12_means 21 rfl) rfl ?_
      refine pw_putri (aX12_means 22 rfl) uf_RX12_659 (fun _ _ _ => rfl) (fun t6 => ?_)
      refine pw_aloadn (aX12_means 23 rfl) rfl ?_
      refine pw_iconst (v := (0 : Int32)) (aX12_means 24 rfl) rfl ?_
      refine pw_putri (aX12_means 25 rfl) uf_RX12_662 (fun _ _ _ => rfl) (fun t7 => ?_)
      refine pw_aloadn (aX12_means 26 rfl) rfl ?_
      refine pw_getr (v := .ref (base + 169)) (aX12_means 27 rfl) uf_RX12_166 un_RX12_166 (congrArg (fun r => va_rf (h_rf base r)) (q121_96 (hok).2.1)) ?_
      refine pw_iconst (v := (0 : Int32)) (aX12_means 28 rfl) rfl ?_
      refine pw_iconst (v := (0 : Int32)) (aX12_means 29 rfl) rfl ?_
      refine pw_iastr (c := 169) (ix := 0) (aX12_means 30 rfl) rfl (fun _ => ?_)
      refine pw_aloadn (aX12_means 31 rfl) rfl ?_
      refine pw_getr (v := .ref (base + 170)) (aX12_means 32 rfl) uf_RX12_169 un_RX12_169 (congrArg (fun r => va_rf (h_rf base r)) (q121_97 (hok).2.1)) ?_
      refine pw_iconst (v := (0 : Int32)) (aX12_means 33 rfl) rfl ?_
      refine pw_lconst (v := (0 : Int64)) (aX12_means 34 rfl) rfl ?_
      refine pw_lastr (c := 170) (ix := 0) (aX12_means 35 rfl) rfl (fun _ => ?_)
      refine pw_aloadn (aX12_means 36 rfl) rfl ?_
      refine pw_getr (v := .ref (base + 171)) (aX12_means 37 rfl) uf_RX12_172 un_RX12_172 (congrArg (fun r => va_rf (h_rf base r)) (q121_98 (hok).2.1)) ?_
      refine pw_iconst (v := (0 : Int32)) (aX12_means 38 rfl) rfl ?_
      refine pw_iconst (v := (0 : Int32)) (aX12_means 39 rfl) rfl ?_
      refine pw_iastr (c := 171) (ix := 0) (aX12_means 40 rfl) rfl (fun _ => ?_)
      refine pw_aloadn (aX12_means 41 rfl) rfl ?_
      refine pw_getr (v := .ref (base + 156)) (aX12_means 42 rfl) uf_RX12_126 un_RX12_126 (congrArg (fun r => va_rf (h_rf base r)) (q121_76 (hok).2.1)) ?_
      refine pw_iloadn (aX12_means 43 rfl) rfl ?_
      refine pw_ialdr (c := 156) (ix := (a1).toInt.toNat) (aX12_means 44 rfl) rfl (fun _ => ?_)
      refine pw_ifne (tgt := 82) (aX12_means 45 rfl) (by decide) (fun b7 => ?_) (fun b7 => ?_)
      · skip
        refine pw_aloadn (aX12_means 46 rfl) rfl ?_
        refine pw_iconst (v := (1 : Int32)) (aX12_means 47 rfl) rfl ?_
        refine pw_callV (Bs := [.int ((1 : Int32))]) (rest := []) (aX12_means 48 rfl) um_RX12_665 ujX12_meantLocation wc_RX12_665.2.2.2.2 (by decide) (by decide) rfl rfl (fun d => rX12_meantLocation hkb ((1 : Int32)) n sl SH (h_up (h_up (h_up (h_up (h_up (h_up (h_up FI 121 0 ((0 : Int32))) 121 93 ((0 : Int32))) 121 92 (FI 157 (a1).toInt.toNat)) 121 94 ((1 : Int32))) 121 95 ((0 : Int32))) 169 0 ((0 : Int32))) 171 0 ((0 : Int32))) (h_up FL 170 0 ((0 : Int64))) FR hok) (fun v8 n8 sl8 SH8 FI8 FL8 FR8 hok8 _ => ?_)
        show pw _ _ _ _ _ _ _ 79 _ [] _ _
        refine pw_goto (tgt := 187) (aX12_means 49 rfl) (by decide) ?_
        exact pw_Li (L2 := [(0, .ref (base + 121)), (1, .int (a1)), (2, .long (a2)), (4, .int 0), (5, .int 0), (6, .long 0), (8, .long 0)]) [0, 1, 2] (rX12_means_187 hkb a1 a2 0 0 0 0 n8 sl8 SH8 FI8 FL8 FR8 hok8  ) ⟨rfl, rfl, rfl, trivial⟩
      · skip
        refine pw_iconst (v := (0 : Int32)) (aX12_means 50 rfl) rfl ?_
        refine pw_istore (L2 := [(4, .int ((0 : Int32))), (0, .ref (base + 121)), (1, .int (a1)), (2, .long (a2))]) (aX12_means 51 rfl) rfl ?_
        refine pw_iconst (v := (0 : Int32)) (aX12_means 52 rfl) rfl ?_
        refine pw_istore (L2 := [(5, .int ((0 : Int32))), (4, .int ((0 : Int32))), (0, .ref (base + 121)), (1, .int (a1)), (2, .long (a2))]) (aX12_means 53 rfl) rfl ?_
        exact pw_Li (L2 := [(0, .ref (base + 121)), (1, .int (a1)), (2, .long (a2)), (4, .int ((0 : Int32))), (5, .int ((0 : Int32))), (6, .long 0), (8, .long 0)]) [4, 3, 0, 1, 2] (rX12_means_88 hkb a1 a2 ((0 : Int32)) ((0 : Int32)) 0 0 n sl SH (h_up (h_up (h_up (h_up (h_up (h_up (h_up FI 121 0 ((0 : Int32))) 121 93 ((0 : Int32))) 121 92 (FI 157 (a1).toInt.toNat)) 121 94 ((1 : Int32))) 121 95 ((0 : Int32))) 169 0 ((0 : Int32))) 171 0 ((0 : Int32))) (h_up FL 170 0 ((0 : Int64))) FR hok  ) ⟨rfl, rfl, rfl, rfl, rfl, trivial⟩
    · skip
      refine pw_iconst (v := (-1 : Int32)) (aX12_means 9 rfl) rfl ?_
      exact pw_iret (aX12_means 10 rfl) hok
set_option maxHeartbeats 4000000 in
set_option maxRecDepth 100000 in
theorem rX12_load {sk : xK} {base N d : Nat} (hkb : x_kb sk base) (a1 : Int32) (a2 : Int64) (n sl : Nat) (SH : Nat → Nat × Nat) (FI : Nat → Nat → Int32) (FL : Nat → Nat → Int64) (FR : Nat → Nat → Option Nat) (hok : pk n SH FR)  : pw pj_I sk base N d none 159 0 [(0, .ref (base + 121)), (1, .int (a1)), (2, .long (a2))] [] (n, sl, SH, FI, FL, FR) (RX12_load a1 a2 n sl SH FI FL FR) := by
  unfold RX12_load
  refine pw_aloadn (aX12_load 0 rfl) rfl ?_
  refine pw_iconst (v := (0 : Int32)) (aX12_load 1 rfl) rfl ?_
  refine pw_putri (aX12_load 2 rfl) uf_RX12_187 (fun _ _ _ => rfl) (fun t1 => ?_)
  refine pw_iloadn (aX12_load 3 rfl) rfl ?_
  refine pw_iflt (tgt := 15) (aX12_load 4 rfl) (by decide) (fun b1 => ?_) (fun b1 => ?_)
  · skip
    refine pw_iconst (v := (0 : Int32)) (aX12_load 8 rfl) rfl ?_
    exact pw_iret (aX12_load 9 rfl) hok
  · skip
    refine pw_iloadn (aX12_load 5 rfl) rfl ?_
    refine pw_bipush (v := (31 : Int32)) (aX12_load 6 rfl) rfl ?_
    refine pw_icle (tgt := 17) (aX12_load 7 rfl) (by decide) (fun b2 => ?_) (fun b2 => ?_)
    · skip
      refine pw_iconst (v := (0 : Int32)) (aX12_load 8 rfl) rfl ?_
      exact pw_iret (aX12_load 9 rfl) hok
    · skip
      refine pw_aloadn (aX12_load 10 rfl) rfl ?_
      refine pw_getr (v := .ref (base + 122)) (aX12_load 11 rfl) uf_RX12_7 un_RX12_7 (congrArg (fun r => va_rf (h_rf base r)) (q121_1 (hok).2.1)) ?_
      refine pw_iloadn (aX12_load 12 rfl) rfl ?_
      refine pw_lloadn (aX12_load 13 rfl) rfl ?_
      refine pw_lastr (c := 122) (ix := (a1).toInt.toNat) (aX12_load 14 rfl) rfl (fun _ => ?_)
      refine pw_iconst (v := (1 : Int32)) (aX12_load 15 rfl) rfl ?_
      exact pw_iret (aX12_load 16 rfl) hok
set_option maxHeartbeats 4000000 in
set_option maxRecDepth 100000 in
theorem rX12_register {sk : xK} {base N d : Nat} (hkb : x_kb sk base) (a1 : Int32) (n sl : Nat) (SH : Nat → Nat × Nat) (FI : Nat → Nat → Int32) (FL : Nat → Nat → Int64) (FR : Nat → Nat → Option Nat) (hok : pk n SH FR)  : pw pj_J sk base N d none 160 0 [(0, .ref (base + 121)), (1, .int (a1))] [] (n, sl, SH, FI, FL, FR) (RX12_register a1 n sl SH FI FL FR) := by
  unfold RX12_register
  refine pw_aloadn (aX12_register 0 rfl) rfl ?_
  refine pw_iconst (v := (0 : Int32)) (aX12_register 1 rfl) rfl ?_
  refine pw_putri (aX12_register 2 rfl) uf_RX12_187 (fun _ _ _ => rfl) (fun t1 => ?_)
  refine pw_iloadn (aX12_register 3 rfl) rfl ?_
  refine pw_iflt (tgt := 15) (aX12_register 4 rfl) (by decide) (fun b1 => ?_) (fun b1 => ?_)
  · skip
    refine pw_lconst (v := (0 : Int64)) (aX12_register 8 rfl) rfl ?_
    refine pw_goto (tgt := 25) (aX12_register 9 rfl) (by decide) ?_
    exact pw_lret (aX12_register 14 rfl) hok
  · skip
    refine pw_iloadn (aX12_register 5 rfl) rfl ?_
    refine pw_bipush (v := (31 : Int32)) (aX12_register 6 rfl) rfl ?_
    refine pw_icle (tgt := 19) (aX12_register 7 rfl) (by decide) (fun b2 => ?_) (fun b2 => ?_)
    · skip
      refine pw_lconst (v := (0 : Int64)) (aX12_register 8 rfl) rfl ?_
      refine pw_goto (tgt := 25) (aX12_register 9 rfl) (by decide) ?_
      exact pw_lret (aX12_register 14 rfl) hok
    · skip
      refine pw_aloadn (aX12_register 10 rfl) rfl ?_
      refine pw_getr (v := .ref (base + 122)) (aX12_register 11 rfl) uf_RX12_7 un_RX12_7 (congrArg (fun r => va_rf (h_rf base r)) (q121_1 (hok).2.1)) ?_
      refine pw_iloadn (aX12_register 12 rfl) rfl ?_
      refine pw_laldr (c := 122) (ix := (a1).toInt.toNat) (aX12_register 13 rfl) rfl (fun _ => ?_)
      exact pw_lret (aX12_register 14 rfl) hok
set_option maxHeartbeats 4000000 in
set_option maxRecDepth 100000 in
theorem rX12_poke {sk : xK} {base N d : Nat} (hkb : x_kb sk base) (a1 : Int32) (a2 : Int32) (n sl : Nat) (SH : Nat → Nat × Nat) (FI : Nat → Nat → Int32) (FL : Nat → Nat → Int64) (FR : Nat → Nat → Option Nat) (hok : pk n SH FR)  : pw pj_I sk base N d none 161 0 [(0, .ref (base + 121)), (1, .int (a1)), (2, .int (a2))] [] (n, sl, SH, FI, FL, FR) (RX12_poke a1 a2 n sl SH FI FL FR) := by
  unfold RX12_poke
  refine pw_aloadn (aX12_poke 0 rfl) rfl ?_
  refine pw_iconst (v := (0 : Int32)) (aX12_poke 1 rfl) rfl ?_
  refine pw_putri (aX12_poke 2 rfl) uf_RX12_187 (fun _ _ _ => rfl) (fun t1 => ?_)
  refine pw_iloadn (aX12_poke 3 rfl) rfl ?_
  refine pw_iflt (tgt := 16) (aX12_poke 4 rfl) (by decide) (fun b1 => ?_) (fun b1 => ?_)
  · skip
    refine pw_iconst (v := (0 : Int32)) (aX12_poke 8 rfl) rfl ?_
    exact pw_iret (aX12_poke 9 rfl) hok
  · skip
    refine pw_iloadn (aX12_poke 5 rfl) rfl ?_
    refine pw_sipush (v := (4095 : Int32)) (aX12_poke 6 rfl) rfl ?_
    refine pw_icle (tgt := 18) (aX12_poke 7 rfl) (by decide) (fun b2 => ?_) (fun b2 => ?_)
    · skip
      refine pw_iconst (v := (0 : Int32)) (aX12_poke 8 rfl) rfl ?_
      exact pw_iret (aX12_poke 9 rfl) hok
    · skip
      refine pw_aloadn (aX12_poke 10 rfl) rfl ?_
      refine pw_getr (v := .ref (base + 123)) (aX12_poke 11 rfl) uf_RX12_13 un_RX12_13 (congrArg (fun r => va_rf (h_rf base r)) (q121_2 (hok).2.1)) ?_
      refine pw_iloadn (aX12_poke 12 rfl) rfl ?_
      refine pw_iloadn (aX12_poke 13 rfl) rfl ?_
      refine pw_sipush (v := (255 : Int32)) (aX12_poke 14 rfl) rfl ?_
      refine pw_iand (aX12_poke 15 rfl) ?_
      refine pw_iastr (c := 123) (ix := (a1).toInt.toNat) (aX12_poke 16 rfl) rfl (fun _ => ?_)
      refine pw_iconst (v := (1 : Int32)) (aX12_poke 17 rfl) rfl ?_
      exact pw_iret (aX12_poke 18 rfl) hok
set_option maxHeartbeats 4000000 in
set_option maxRecDepth 100000 in
theorem rX12_peek {sk : xK} {base N d : Nat} (hkb : x_kb sk base) (a1 : Int32) (n sl : Nat) (SH : Nat → Nat × Nat) (FI : Nat → Nat → Int32) (FL : Nat → Nat → Int64) (FR : Nat → Nat → Option Nat) (hok : pk n SH FR)  : pw pj_I sk base N d none 162 0 [(0, .ref (base + 121)), (1, .int (a1))] [] (n, sl, SH, FI, FL, FR) (RX12_peek a1 n sl SH FI FL FR) := by
  unfold RX12_peek
  refine pw_aloadn (aX12_peek 0 rfl) rfl ?_
  refine pw_iconst (v := (0 : Int32)) (aX12_peek 1 rfl) rfl ?_
  refine pw_putri (aX12_peek 2 rfl) uf_RX12_187 (fun _ _ _ => rfl) (fun t1 => ?_)
  refine pw_iloadn (aX12_peek 3 rfl) rfl ?_
  refine pw_iflt (tgt := 16) (aX12_peek 4 rfl) (by decide) (fun b1 => ?_) (fun b1 => ?_)
  · skip
    refine pw_iconst (v := (-1 : Int32)) (aX12_peek 8 rfl) rfl ?_
    refine pw_goto (tgt := 26) (aX12_peek 9 rfl) (by decide) ?_
    exact pw_iret (aX12_peek 14 rfl) hok
  · skip
    refine pw_iloadn (aX12_peek 5 rfl) rfl ?_
    refine pw_sipush (v := (4095 : Int32)) (aX12_peek 6 rfl) rfl ?_
    refine pw_icle (tgt := 20) (aX12_peek 7 rfl) (by decide) (fun b2 => ?_) (fun b2 => ?_)
    · skip
      refine pw_iconst (v := (-1 : Int32)) (aX12_peek 8 rfl) rfl ?_
      refine pw_goto (tgt := 26) (aX12_peek 9 rfl) (by decide) ?_
      exact pw_iret (aX12_peek 14 rfl) hok
    · skip
      refine pw_aloadn (aX12_peek 10 rfl) rfl ?_
      refine pw_getr (v := .ref (base + 123)) (aX12_peek 11 rfl) uf_RX12_13 un_RX12_13 (congrArg (fun r => va_rf (h_rf base r)) (q121_2 (hok).2.1)) ?_
      refine pw_iloadn (aX12_peek 12 rfl) rfl ?_
      refine pw_ialdr (c := 123) (ix := (a1).toInt.toNat) (aX12_peek 13 rfl) rfl (fun _ => ?_)
      exact pw_iret (aX12_peek 14 rfl) hok
set_option maxHeartbeats 4000000 in
set_option maxRecDepth 100000 in
theorem rX12_frame {sk : xK} {base N d : Nat} (hkb : x_kb sk base) (a1 : Int32) (n sl : Nat) (SH : Nat → Nat × Nat) (FI : Nat → Nat → Int32) (FL : Nat → Nat → Int64) (FR : Nat → Nat → Option Nat) (hok : pk n SH FR)  : pw pj_I sk base N d none 163 0 [(0, .ref (base + 121)), (1, .int (a1))] [] (n, sl, SH, FI, FL, FR) (RX12_frame a1 n sl SH FI FL FR) := by
  unfold RX12_frame
  refine pw_aloadn (aX12_frame 0 rfl) rfl ?_
  refine pw_iconst (v := (0 : Int32)) (aX12_frame 1 rfl) rfl ?_
  refine pw_putri (aX12_frame 2 rfl) uf_RX12_187 (fun _ _ _ => rfl) (fun t1 => ?_)
  refine pw_iloadn (aX12_frame 3 rfl) rfl ?_
  refine pw_iconst (v := (-1 : Int32)) (aX12_frame 4 rfl) rfl ?_
  refine pw_iclt (tgt := 16) (aX12_frame 5 rfl) (by decide) (fun b1 => ?_) (fun b1 => ?_)
  · skip
    refine pw_iconst (v := (0 : Int32)) (aX12_frame 9 rfl) rfl ?_
    exact pw_iret (aX12_frame 10 rfl) hok
  · skip
    refine pw_iloadn (aX12_frame 6 rfl) rfl ?_
    refine pw_bipush (v := (15 : Int32)) (aX12_frame 7 rfl) rfl ?_
    refine pw_icle (tgt := 18) (aX12_frame 8 rfl) (by decide) (fun b2 => ?_) (fun b2 => ?_)
    · skip
      refine pw_iconst (v := (0 : Int32)) (aX12_frame 9 rfl) rfl ?_
      exact pw_iret (aX12_frame 10 rfl) hok
    · skip
      refine pw_aloadn (aX12_frame 11 rfl) rfl ?_
      refine pw_iloadn (aX12_frame 12 rfl) rfl ?_
      refine pw_putri (aX12_frame 13 rfl) uf_RX12_23 (fun _ _ _ => rfl) (fun t4 => ?_)
      refine pw_iconst (v := (1 : Int32)) (aX12_frame 14 rfl) rfl ?_
      exact pw_iret (aX12_frame 15 rfl) hok
set_option maxHeartbeats 4000000 in
set_option maxRecDepth 100000 in
theorem rX12_cfa {sk : xK} {base N d : Nat} (hkb : x_kb sk base) (a1 : Int32) (a2 : Int64) (n sl : Nat) (SH : Nat → Nat × Nat) (FI : Nat → Nat → Int32) (FL : Nat → Nat → Int64) (FR : Nat → Nat → Option Nat) (hok : pk n SH FR)  : pw pj_I sk base N d none 164 0 [(0, .ref (base + 121)), (1, .int (a1)), (2, .long (a2))] [] (n, sl, SH, FI, FL, FR) (RX12_cfa a1 a2 n sl SH FI FL FR) := by
  unfold RX12_cfa
  refine pw_aloadn (aX12_cfa 0 rfl) rfl ?_
  refine pw_iconst (v := (0 : Int32)) (aX12_cfa 1 rfl) rfl ?_
  refine pw_putri (aX12_cfa 2 rfl) uf_RX12_187 (fun _ _ _ => rfl) (fun t1 => ?_)
  refine pw_iloadn (aX12_cfa 3 rfl) rfl ?_
  refine pw_iconst (v := (-1 : Int32)) (aX12_cfa 4 rfl) rfl ?_
  refine pw_iclt (tgt := 16) (aX12_cfa 5 rfl) (by decide) (fun b1 => ?_) (fun b1 => ?_)
  · skip
    refine pw_iconst (v := (0 : Int32)) (aX12_cfa 9 rfl) rfl ?_
    exact pw_iret (aX12_cfa 10 rfl) hok
  · skip
    refine pw_iloadn (aX12_cfa 6 rfl) rfl ?_
    refine pw_bipush (v := (31 : Int32)) (aX12_cfa 7 rfl) rfl ?_
    refine pw_icle (tgt := 18) (aX12_cfa 8 rfl) (by decide) (fun b2 => ?_) (fun b2 => ?_)
    · skip
      refine pw_iconst (v := (0 : Int32)) (aX12_cfa 9 rfl) rfl ?_
      exact pw_iret (aX12_cfa 10 rfl) hok
    · skip
      refine pw_aloadn (aX12_cfa 11 rfl) rfl ?_
      refine pw_iloadn (aX12_cfa 12 rfl) rfl ?_
      refine pw_putri (aX12_cfa 13 rfl) uf_RX12_27 (fun _ _ _ => rfl) (fun t4 => ?_)
      refine pw_aloadn (aX12_cfa 14 rfl) rfl ?_
      refine pw_lloadn (aX12_cfa 15 rfl) rfl ?_
      refine pw_putrl (aX12_cfa 16 rfl) uf_RX12_201 (fun _ _ _ => rfl) (fun t5 => ?_)
      refine pw_iconst (v := (1 : Int32)) (aX12_cfa 17 rfl) rfl ?_
      exact pw_iret (aX12_cfa 18 rfl) hok
set_option maxHeartbeats 4000000 in
set_option maxRecDepth 100000 in
theorem rX12_set {sk : xK} {base N d : Nat} (hkb : x_kb sk base) (a1 : Int32) (a2 : Int64) (a3 : Int32) (n sl : Nat) (SH : Nat → Nat × Nat) (FI : Nat → Nat → Int32) (FL : Nat → Nat → Int64) (FR : Nat → Nat → Option Nat) (hok : pk n SH FR)  : pw pj_I sk base N d none 165 0 [(0, .ref (base + 121)), (1, .int (a1)), (2, .long (a2)), (4, .int (a3))] [] (n, sl, SH, FI, FL, FR) (RX12_set a1 a2 a3 n sl SH FI FL FR) := by
  unfold RX12_set
  refine pw_aloadn (aX12_set 0 rfl) rfl ?_
  refine pw_iconst (v := (0 : Int32)) (aX12_set 1 rfl) rfl ?_
  refine pw_putri (aX12_set 2 rfl) uf_RX12_187 (fun _ _ _ => rfl) (fun t1 => ?_)
  refine pw_iloadn (aX12_set 3 rfl) rfl ?_
  refine pw_iflt (tgt := 14) (aX12_set 4 rfl) (by decide) (fun b1 => ?_) (fun b1 => ?_)
  · skip
    refine pw_iconst (v := (0 : Int32)) (aX12_set 8 rfl) rfl ?_
    exact pw_iret (aX12_set 9 rfl) hok
  · skip
    refine pw_iloadn (aX12_set 5 rfl) rfl ?_
    refine pw_iconst (v := (1 : Int32)) (aX12_set 6 rfl) rfl ?_
    refine pw_icle (tgt := 16) (aX12_set 7 rfl) (by decide) (fun b2 => ?_) (fun b2 => ?_)
    · skip
      refine pw_iconst (v := (0 : Int32)) (aX12_set 8 rfl) rfl ?_
      exact pw_iret (aX12_set 9 rfl) hok
    · skip
      refine pw_iloadn (aX12_set 10 rfl) rfl ?_
      refine pw_ifne (tgt := 34) (aX12_set 11 rfl) (by decide) (fun b3 => ?_) (fun b3 => ?_)
      · skip
        refine pw_aloadn (aX12_set 12 rfl) rfl ?_
        refine pw_lloadn (aX12_set 13 rfl) rfl ?_
        refine pw_putrl (aX12_set 14 rfl) uf_RX12_205 (fun _ _ _ => rfl) (fun t5 => ?_)
        refine pw_aloadn (aX12_set 15 rfl) rfl ?_
        refine pw_iload (aX12_set 16 rfl) rfl ?_
        refine pw_putri (aX12_set 17 rfl) uf_RX12_208 (fun _ _ _ => rfl) (fun t6 => ?_)
        refine pw_goto (tgt := 45) (aX12_set 18 rfl) (by decide) ?_
        refine pw_iconst (v := (1 : Int32)) (aX12_set 25 rfl) rfl ?_
        exact pw_iret (aX12_set 26 rfl) hok
      · skip
        refine pw_aloadn (aX12_set 19 rfl) rfl ?_
        refine pw_lloadn (aX12_set 20 rfl) rfl ?_
        refine pw_putrl (aX12_set 21 rfl) uf_RX12_212 (fun _ _ _ => rfl) (fun t7 => ?_)
        refine pw_aloadn (aX12_set 22 rfl) rfl ?_
        refine pw_iload (aX12_set 23 rfl) rfl ?_
        refine pw_putri (aX12_set 24 rfl) uf_RX12_215 (fun _ _ _ => rfl) (fun t8 => ?_)
        refine pw_iconst (v := (1 : Int32)) (aX12_set 25 rfl) rfl ?_
        exact pw_iret (aX12_set 26 rfl) hok
