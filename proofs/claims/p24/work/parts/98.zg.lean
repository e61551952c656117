/-! THE CLASS'S CODER over a tree: putNode, putChoice, putChain write n_cd's bytes. -/
theorem n_nx_ag {FI F2 : Nat → Nat → Int32} {FL : Nat → Nat → Int64} {FR : Nat → Nat → Option Nat} {c : Nat} (h : ∀ c k, 176 ≤ c → F2 c k = FI c k) (hc : 176 ≤ c) : n_nx F2 FL FR c = n_nx FI FL FR c := by
  unfold n_nx
  rw [h c 0 hc]
  by_cases h1 : (FI c 0).toInt = 37 ∨ (FI c 0).toInt = 11
  · rw [if_pos h1, if_pos h1]
    cases FR c 6 with
    | none => rfl
    | some e =>
      dsimp only
      by_cases he : 176 ≤ e
      · rw [h e 0 he, h e 2 he]
      · rw [if_neg (fun x => he x.1), if_neg (fun x => he x.1)]
  · rw [if_neg h1, if_neg h1]
theorem n_nx_ge {FI : Nat → Nat → Int32} {FL : Nat → Nat → Int64} {FR : Nat → Nat → Option Nat} {c e : Nat} (h : n_nx FI FL FR c = some e) : 176 ≤ e := by
  unfold n_nx at h
  by_cases h1 : (FI c 0).toInt = 37 ∨ (FI c 0).toInt = 11
  · rw [if_pos h1] at h
    cases h6 : FR c 6 with
    | none => rw [h6] at h; cases h
    | some e2 =>
      rw [h6] at h
      dsimp only at h
      by_cases h2 : 176 ≤ e2 ∧ (FI e2 0).toInt = 5 ∧ ((FI e2 2).toInt = 43 ∨ (FI e2 2).toInt = 45) ∧ n_rg (FI e2 0).toInt (FL e2 1).toInt = true
      · rw [if_pos h2] at h
        cases h
        exact h2.1
      · rw [if_neg h2] at h
        cases h
  · rw [if_neg h1] at h
    cases h
theorem n_cd_ag {FI F2 : Nat → Nat → Int32} {FL : Nat → Nat → Int64} {FR : Nat → Nat → Option Nat} (h : ∀ c k, 176 ≤ c → F2 c k = FI c k) : ∀ (f m : Nat) (o : Option Nat) (d : Int), n_cd F2 FL FR f m o d = n_cd FI FL FR f m o d := by
  intro f
  induction f with
  | zero => intro m o d; rfl
  | succ f ih =>
    intro m o d
    cases o with
    | none => rfl
    | some c =>
      show n_st F2 FL FR (n_cd F2 FL FR f) m c d = n_st FI FL FR (n_cd FI FL FR f) m c d
      have e : n_cd F2 FL FR f = n_cd FI FL FR f := by
        funext m o d
        exact ih m o d
      rw [e]
      unfold n_st
      by_cases hc : c < 176
      · rw [if_pos (Or.inl hc), if_pos (Or.inl hc)]
      · rw [n_nx_ag h (by omega), h c 0 (by omega), h c 2 (by omega)]
        cases hn : n_nx FI FL FR c with
        | none => rfl
        | some e =>
          dsimp only
          rw [h e 2 (n_nx_ge hn)]
theorem i_us8 : ∀ m : Nat, m < 700 → ((((Int32.ofNat m).toUInt32 >>> (((8 : Int32)).toUInt32 &&& Int32.toUInt32 31)).toInt32) &&& ((255 : Int32))).toInt = (m : Int) / 256 % 256 := by decide +kernel
section CQ
variable {n sl : Nat} {SH : Nat → Nat × Nat} {FI : Nat → Nat → Int32} {FL : Nat → Nat → Int64} {FR : Nat → Nat → Option Nat} {v : Unit} {s : hS}
theorem l_mid {B1 B2 : List Int} {u w u2 w2 : Int} {i : Nat} (h1 : i ≠ B1.length) (h2 : i ≠ B1.length + 1) : (B1 ++ u :: w :: B2).getD i 0 = (B1 ++ u2 :: w2 :: B2).getD i 0 := by
  rcases Nat.lt_or_ge i B1.length with h | h
  · rw [l_getD_app h, l_getD_app h]
  · obtain ⟨j, rfl⟩ := Nat.exists_eq_add_of_le h
    simp only [List.getD_eq_getElem?_getD]
    rw [List.getElem?_append_right (by omega), List.getElem?_append_right (by omega)]
    rw [show B1.length + j - B1.length = j by omega]
    match j, h1, h2 with
    | 0, h1, _ => exact absurd rfl h1
    | 1, _, h2 => exact absurd rfl h2
    | j + 2, _, _ => rfl
theorem c_patch {a1 a2 : Int32} (hQ : h_S n SH) (h : RX0_patch a1 a2 n sl SH FI FL FR v s) : ∃ F2, s = (n, sl, SH, F2, FL, FR) ∧ c_fr FI F2 ∧ (∀ B1 u w B2 m, c_vw FI (B1 ++ u :: w :: B2) → a1 = Int32.ofNat B1.length → a2 = Int32.ofNat m → ((B1 ++ u :: w :: B2).length ≤ 600 → m < 700) → c_vw F2 (B1 ++ (lc_by m 2 ++ B2))) := by
  have hz : (Int32.ofNat (SH 120).2).toInt = 600 := by rw [s120 hQ]; decide
  have hlen : ∀ (B1 B2 : List Int) (u w : Int) (m : Nat), (B1 ++ (lc_by m 2 ++ B2)).length = (B1 ++ u :: w :: B2).length := by
    intro B1 B2 u w m
    simp [lc_by]
  have hl2 : ∀ (B1 B2 : List Int) (u w : Int), (B1 ++ u :: w :: B2).length = B1.length + (B2.length + 2) := by
    intro B1 B2 u w
    simp
  rcases h with ⟨h1, h⟩ | ⟨h1, h⟩
  · obtain ⟨-, rfl⟩ := h
    refine ⟨FI, rfl, fun _ _ _ _ => rfl, fun B1 u w B2 m hv ha hb hm => ⟨by rw [hlen B1 B2 u w m]; exact hv.1, fun hl i hi => ?_⟩⟩
    exfalso
    rw [hlen B1 B2 u w m, hl2] at hl
    rw [ha, i_lit (by omega)] at h1
    omega
  · rcases h with ⟨h2, h⟩ | ⟨h2, h⟩
    · obtain ⟨-, -, -, rfl⟩ := h
      refine ⟨_, rfl, fun c k g1 g2 => by rw [h_up_nc g2, h_up_nc g2], fun B1 u w B2 m hv ha hb hm => ⟨by rw [hlen B1 B2 u w m, h_up_nc (by decide), h_up_nc (by decide)]; exact hv.1, fun hl i hi => ?_⟩⟩
      rw [hlen B1 B2 u w m] at hl hi
      have hm7 := hm hl
      rw [hl2] at hl hi
      have e1 : a1.toInt = B1.length := by rw [ha, i_lit (by omega)]
      have e2 : (a1 + (1 : Int32)).toInt = B1.length + 1 := i_add e1 (by decide : ((1 : Int32)).toInt = 1) (by omega) (by omega)
      have n1 : a1.toInt.toNat = B1.length := by omega
      have n2 : (a1 + (1 : Int32)).toInt.toNat = B1.length + 1 := by omega
      rw [n1, n2]
      have el : lc_by m 2 ++ B2 = (m : Int) % 256 :: (m : Int) / 256 % 256 :: B2 := rfl
      rw [el]
      by_cases g1 : i = B1.length + 1
      · subst g1
        rw [h_up_eq, hb, i_us8 m hm7]
        simp
      · rw [h_up_ne g1]
        by_cases g2 : i = B1.length
        · subst g2
          rw [h_up_eq, i_m255, hb, i_lit (by omega)]
          simp
        · rw [h_up_ne g2, hv.2 (by rw [hl2]; omega) i (by rw [hl2]; omega)]
          exact l_mid g2 g1
    · obtain ⟨-, rfl⟩ := h
      refine ⟨FI, rfl, fun _ _ _ _ => rfl, fun B1 u w B2 m hv ha hb hm => ⟨by rw [hlen B1 B2 u w m]; exact hv.1, fun hl i hi => ?_⟩⟩
      exfalso
      rw [hlen B1 B2 u w m, hl2] at hl
      have e1 : a1.toInt = B1.length := by rw [ha, i_lit (by omega)]
      have e2 : (a1 + (1 : Int32)).toInt = B1.length + 1 := i_add e1 (by decide : ((1 : Int32)).toInt = 1) (by omega) (by omega)
      rw [e2, hz] at h2
      omega
/-- what a run of putNode writes, by n_cd's fuel -/
def c_hN (n sl : Nat) (SH : Nat → Nat × Nat) (FL : Nat → Nat → Int64) (FR : Nat → Nat → Option Nat) (f : Nat) (M : Option Nat → Int32 → Nat → Nat → (Nat → Nat × Nat) → (Nat → Nat → Int32) → (Nat → Nat → Int64) → (Nat → Nat → Option Nat) → Unit → hS → Prop) : Prop := ∀ (o : Option Nat) (a2 : Int32) (d : Int) (FI : Nat → Nat → Int32) (v : Unit) (s : hS) (A : List Int), M o a2 n sl SH FI FL FR v s → a2.toInt = d → 0 ≤ d → d ≤ 121 → n_cd FI FL FR f 0 o d = some A → c_ap n sl SH FI FL FR s A
theorem c_fr_t {F1 F2 F3 : Nat → Nat → Int32} (h : c_fr F1 F2) (h2 : c_fr F2 F3) : c_fr F1 F3 := fun c k g1 g2 => (h2 c k g1 g2).trans (h c k g1 g2)
theorem c_fr_n {F1 F2 : Nat → Nat → Int32} (h : c_fr F1 F2) : ∀ c k, 176 ≤ c → F2 c k = F1 c k := fun c k g => h c k (by omega) (by omega)
theorem i_dist {p q : Nat} {x y : Int32} (hx : x = Int32.ofNat (p + (q + 2))) (hy : y = Int32.ofNat p) : (x - y) - (2 : Int32) = Int32.ofNat q := by
  rw [hx, hy, Int32.ofNat_add, Int32.ofNat_add]
  apply Int32.toBitVec_inj.mp
  show (Int32.ofNat p).toBitVec + ((Int32.ofNat q).toBitVec + 2#32) - (Int32.ofNat p).toBitVec - 2#32 = (Int32.ofNat q).toBitVec
  generalize (Int32.ofNat p).toBitVec = P
  generalize (Int32.ofNat q).toBitVec = Q
  rw [← BitVec.add_assoc, BitVec.add_comm P Q, BitVec.add_assoc, BitVec.add_comm P, ← BitVec.add_assoc]
  rw [BitVec.add_sub_cancel, BitVec.add_sub_cancel]
theorem c_choice {f c : Nat} {M M1 M2 : Option Nat → Int32 → Nat → Nat → (Nat → Nat × Nat) → (Nat → Nat → Int32) → (Nat → Nat → Int64) → (Nat → Nat → Option Nat) → Unit → hS → Prop} {a2 : Int32} {d : Int} {x y z : List Int} (hQ : h_S n SH) (hN : c_hN n sl SH FL FR f M) (h : RX0_putChoice M M1 M2 (some c) a2 n sl SH FI FL FR v s) (hd : a2.toInt = d) (h0 : 0 ≤ d) (h1 : d ≤ 120) (hx : n_cd FI FL FR f 0 (FR c 3) (d + 1) = some x) (hy : n_cd FI FL FR f 0 (FR c 4) (d + 1) = some y) (hz : n_cd FI FL FR f 0 (FR c 5) (d + 1) = some z) : c_ap n sl SH FI FL FR s (x ++ lc_ch y z) := by
  have hd1 : (a2 + (1 : Int32)).toInt = d + 1 := i_add hd (by decide : ((1 : Int32)).toInt = 1) (by omega) (by omega)
  obtain ⟨c1, e1, v1, n1, sl1, SH1, FI1, FL1, FR1, k1, v2, n2, sl2, SH2, FI2, FL2, FR2, k2, v3, n3, sl3, SH3, FI3, FL3, FR3, k3, c5, e5, v5, n5, sl5, SH5, FI5, FL5, FR5, k5, v6, n6, sl6, SH6, FI6, FL6, FR6, k6, v7, n7, sl7, SH7, FI7, FL7, FR7, k7, v8, n8, sl8, SH8, FI8, FL8, FR8, k8, c10, e10, v10, n10, sl10, SH10, FI10, FL10, FR10, k10, v11, n11, sl11, SH11, FI11, FL11, FR11, k11, -, rfl⟩ := h
  cases e1
  cases e5
  cases e10
  obtain ⟨G1, e, r1, p1⟩ := hN _ _ _ _ _ _ _ k1 hd1 (by omega) (by omega) hx
  cases e
  obtain ⟨G2, e, r2, p2⟩ := c_put (b := 40) hQ k2 (by decide)
  cases e
  obtain ⟨G3, e, r3, p3⟩ := c_num (m := 2) hQ k3 (by decide) (by decide) (by omega)
  cases e
  have f3 := c_fr_t (c_fr_t r1 r2) r3
  obtain ⟨G5, e, r5, p5⟩ := hN _ _ _ _ _ _ _ k5 hd1 (by omega) (by omega) ((n_cd_ag (c_fr_n f3) _ _ _ _).trans hz)
  cases e
  obtain ⟨G6, e, r6, p6⟩ := c_put (b := 47) hQ k6 (by decide)
  cases e
  obtain ⟨G7, e, r7, p7⟩ := c_num (m := 2) hQ k7 (by decide) (by decide) (by omega)
  cases e
  obtain ⟨G8, e, r8, p8⟩ := c_patch hQ k8
  cases e
  have f8 := c_fr_t (c_fr_t (c_fr_t (c_fr_t f3 r5) r6) r7) r8
  obtain ⟨G10, e, r10, p10⟩ := hN _ _ _ _ _ _ _ k10 hd1 (by omega) (by omega) ((n_cd_ag (c_fr_n f8) _ _ _ _).trans hy)
  cases e
  obtain ⟨G11, e, r11, p11⟩ := c_patch hQ k11
  cases e
  refine ⟨_, rfl, c_fr_t (c_fr_t f8 r10) r11, fun B hB => ?_⟩
  have b1 := p1 B hB
  have b2 := p2 _ b1
  have b3 := p3 _ b2
  have b5 := p5 _ b3
  have b6 := p6 _ b5
  have b7 := p7 _ b6
  have z2 : lc_by ((0 : Int64)).toInt 2 = [0, 0] := by decide
  rw [z2] at b3 b5 b6 b7
  -- the first distance
  have s7 : (B ++ x ++ [40] ++ [0, 0] ++ z ++ [47] ++ [0, 0]) = (B ++ x ++ [40]) ++ 0 :: 0 :: (z ++ [47, 0, 0]) := by simp
  rw [s7] at b7
  have b8 := p8 _ _ _ _ (z.length + 3) b7 b2.1 (i_dist (by rw [b7.1]; congr 1; simp; omega) b2.1) (fun hl => by simp at hl; omega)
  have b10 := p10 _ b8
  -- the second
  have s10 : (B ++ x ++ [40]) ++ (lc_by ((z.length + 3 : Nat) : Int) 2 ++ (z ++ [47, 0, 0])) ++ y = ((B ++ x ++ [40]) ++ (lc_by ((z.length + 3 : Nat) : Int) 2 ++ (z ++ [47]))) ++ 0 :: 0 :: y := by simp
  rw [s10] at b10
  have hl6 : FI6 119 1 = Int32.ofNat ((B ++ x ++ [40]) ++ (lc_by ((z.length + 3 : Nat) : Int) 2 ++ (z ++ [47]))).length := by
    rw [b6.1]
    congr 1
    simp [lc_by]
    try omega
  have b11 := p11 _ _ _ _ y.length b10 hl6 (i_dist (by rw [b10.1]; congr 1; simp; omega) hl6) (fun hl => by simp at hl; omega)
  have s11 : B ++ (x ++ lc_ch y z) = ((B ++ x ++ [40]) ++ (lc_by ((z.length + 3 : Nat) : Int) 2 ++ (z ++ [47]))) ++ (lc_by (y.length : Nat) 2 ++ y) := by
    unfold lc_ch
    simp
  rw [s11]
  exact b11
end CQ
