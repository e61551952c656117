/-! location, rows. -/
theorem h_up_row {α : Type} {F : Nat → Nat → α} {c k : Nat} {x : α} : h_up F c k x c = va_up (F c) k x := by
  simp [h_up, va_up]
section LO
variable {K W : Nat → Int} {P : Nat → Nat} {n sl : Nat} {SH : Nat → Nat × Nat} {FI : Nat → Nat → Int32} {FL : Nat → Nat → Int64} {FR : Nat → Nat → Option Nat} {t T f : Nat} {o : Int} {B : List Int} {s : hS}
theorem tk_place (hd : d_vw K W FI FL t o B) : (fX12_isPlace SH FI FL FR).toInt = 0 ↔ lp_is (K t) (W t) = false := by
  unfold fX12_isPlace lp_is
  have h1 := tk_sign (SH := SH) (FR := FR) hd.1 (by decide : ((91 : Int32)).toInt = 91)
  have h2 := tk_word (SH := SH) (FR := FR) hd.1 (by decide : ((0 : Int32)).toInt = 0)
  have h3 := tk_word (SH := SH) (FR := FR) hd.1 (by decide : ((1 : Int32)).toInt = 1)
  have h4 := tk_word (SH := SH) (FR := FR) hd.1 (by decide : ((2 : Int32)).toInt = 2)
  have h5 := tk_word (SH := SH) (FR := FR) hd.1 (by decide : ((3 : Int32)).toInt = 3)
  have z1 : ((1 : Int32)).toInt ≠ 0 := by decide
  have z0 : ((0 : Int32)).toInt = 0 := by decide
  rw [decide_eq_false_iff_not]
  split
  · rename_i g1
    split
    · rename_i g2
      split
      · rename_i g3
        split
        · rename_i g4
          split
          · rename_i g5
            rw [h1] at g1
            rw [h2] at g2
            rw [h3] at g3
            rw [h4] at g4
            rw [h5] at g5
            exact ⟨fun _ => by omega, fun _ => z0⟩
          · rename_i g5
            rw [h5] at g5
            exact ⟨fun h => absurd h z1, fun h => absurd (fun e => h (Or.inr ⟨e.1, Or.inr (Or.inr (Or.inr e.2))⟩)) g5⟩
        · rename_i g4
          rw [h4] at g4
          exact ⟨fun h => absurd h z1, fun h => absurd (fun e => h (Or.inr ⟨e.1, Or.inr (Or.inr (Or.inl e.2))⟩)) g4⟩
      · rename_i g3
        rw [h3] at g3
        exact ⟨fun h => absurd h z1, fun h => absurd (fun e => h (Or.inr ⟨e.1, Or.inr (Or.inl e.2)⟩)) g3⟩
    · rename_i g2
      rw [h2] at g2
      exact ⟨fun h => absurd h z1, fun h => absurd (fun e => h (Or.inr ⟨e.1, Or.inl e.2⟩)) g2⟩
  · rename_i g1
    rw [h1] at g1
    exact ⟨fun h => absurd h z1, fun h => absurd (fun e => h (Or.inl e)) g1⟩
/-- the location's length is looked at -/
theorem d_235 {l1 : Int32} {c : List Int} {v : Unit} {md : Nat} (h : RX12_location_235 l1 n sl SH FI FL FR v s) (hl1 : l1 = Int32.ofNat B.length) (hc : c.length < 2000000000) (hd : d_vw K W FI FL t o (B ++ c)) (hm : (FI 121 78).toInt = md) : d_vw K W s.2.2.2.1 s.2.2.2.2.1 t o (B ++ c) ∧ s.2.2.2.1 163 = (if 300 < c.length then va_up (FI 163) md 1 else FI 163) := by
  have e1 : (FI 121 73 - l1).toInt = c.length := by
    rw [hd.2.2.2.1, hl1, List.length_append, Int32.ofNat_add, Int32.add_comm, Int32.add_sub_cancel, i_lit (by omega)]
  have c300 : ((300 : Int32)).toInt = 300 := by decide
  have hm2 : (FI 121 78).toInt.toNat = md := by omega
  rcases h with ⟨h1, h⟩ | ⟨h1, h⟩
  · obtain ⟨-, -, rfl⟩ := h
    rw [e1, c300] at h1
    rw [if_pos (by omega)]
    refine ⟨d_ce hd (by decide) (by decide) (by decide), ?_⟩
    try dsimp only
    rw [hm2, h_up_row]
    rfl
  · obtain ⟨-, rfl⟩ := h
    rw [e1, c300] at h1
    rw [if_neg (by omega)]
    exact ⟨hd, rfl⟩
/-- what place, need, emit, unsigned leave alone -/
def z_k (FI F2 : Nat → Nat → Int32) : Prop := F2 163 = FI 163 ∧ F2 121 78 = FI 121 78
theorem z_rf {F : Nat → Nat → Int32} : z_k F F := ⟨rfl, rfl⟩
theorem z_tr {F F2 F3 : Nat → Nat → Int32} (h : z_k F F2) (h2 : z_k F2 F3) : z_k F F3 := ⟨h2.1.trans h.1, h2.2.trans h.2⟩
theorem z_kq {m : k_M} {a b : hS} (h : kq m a b) (h1 : k_no m 163 = true) (h2 : k_in m.1 m.2.1 121 78 = false) : z_k a.2.2.2.1 b.2.2.2.1 := ⟨kq_cell h h1, kq_fld h h2⟩
theorem z_fl {F : Nat → Nat → Int32} {k : Nat} {x : Int32} (h : k ≠ 78) : z_k F (h_up F 121 k x) := ⟨h_up_nc (by decide), h_up_x (by rintro ⟨-, e⟩; exact h e.symm)⟩
theorem d_pt (hg : tk_rg K W) (hT : K T = 0) (hT2 : T ≤ 1001) (hf : 12 * T + 20 < f) {l1 : Int32} : ∀ (g : Nat) (l2 l3 : Int32) (n sl : Nat) (SH : Nat → Nat × Nat) (FI : Nat → Nat → Int32) (FL : Nat → Nat → Int64) (FR : Nat → Nat → Option Nat) (v : Unit) (s : hS) (g2 m t : Nat) (B : List Int), GX12_location_22 g l1 l2 l3 n sl SH FI FL FR v s → h_S n SH → l3.toInt ≠ 0 → l2.toInt = m → m ≤ 8 → 9 - m ≤ g2 → t ≤ T → d_vw K W FI FL t 1 B → match lp_pt K W f g2 m t with
    | none => (s.2.2.2.1 121 69).toInt ≠ 0
    | some (t1, c) => t < t1 ∧ t1 ≤ T ∧ ∃ n2 sl2 SH2 FI2 FL2 FR2, RX12_location_235 l1 n2 sl2 SH2 FI2 FL2 FR2 v s ∧ d_vw K W FI2 FL2 t1 0 (B ++ c) ∧ z_k FI FI2 := by
  intro g
  induction g with
  | zero => intro l2 l3 n sl SH FI FL FR v s g2 m t B h; exact h.elim
  | succ g ih =>
    intro l2 l3 n sl SH FI FL FR v s g2 m t B h hS h3 hl2 hm hg2 ht hd
    have c3 : ((3 : Int32)).toInt = 3 := by decide
    have c8 : ((8 : Int32)).toInt = 8 := by decide
    have c64 : ((64 : Int64)).toInt = 64 := by decide
    cases g2 with
    | zero => omega
    | succ g2 =>
      rw [lp_pt]
      have bad60 : ∀ (n sl : Nat) (SH : Nat → Nat × Nat) (FI : Nat → Nat → Int32) (FL : Nat → Nat → Int64) (FR : Nat → Nat → Option Nat), RX12_location_60 (GX12_location_22 g) l1 l2 n sl SH FI FL FR v s → (FI 121 69).toInt ≠ 0 → (s.2.2.2.1 121 69).toInt ≠ 0 := by
        intro n sl SH FI FL FR h hz
        rcases h with ⟨h1, h⟩ | ⟨h1, h⟩
        · exact absurd h1 hz
        · obtain ⟨-, rfl⟩ := h
          exact hz
      have bad131 : ∀ (n sl : Nat) (SH : Nat → Nat × Nat) (FI : Nat → Nat → Int32) (FL : Nat → Nat → Int64) (FR : Nat → Nat → Option Nat), RX12_location_131 (GX12_location_22 g) l1 l2 n sl SH FI FL FR v s → (FI 121 69).toInt ≠ 0 → (s.2.2.2.1 121 69).toInt ≠ 0 := by
        intro n sl SH FI FL FR h hz
        rcases h with ⟨h1, h⟩ | ⟨h1, h⟩
        · exact absurd h1 hz
        · obtain ⟨-, rfl⟩ := h
          exact hz
      have bad103 : ∀ (n sl : Nat) (SH : Nat → Nat × Nat) (FI : Nat → Nat → Int32) (FL : Nat → Nat → Int64) (FR : Nat → Nat → Option Nat), RX12_location_103 (GX12_location_22 g) l1 l2 n sl SH FI FL FR v s → (FI 121 69).toInt ≠ 0 → (s.2.2.2.1 121 69).toInt ≠ 0 := by
        intro n sl SH FI FL FR h hz
        rcases h with ⟨h1, h⟩ | ⟨h1, h⟩
        · exact absurd h1 hz
        · exact bad131 _ _ _ _ _ _ h hz
      rcases h with ⟨h1, h⟩ | ⟨h1, h⟩
      · exact absurd h1 h3
      · rcases h with ⟨h2, h⟩ | ⟨h2, h⟩
        · rcases h with ⟨h4, h⟩ | ⟨h4, h⟩
          · rw [tk_place hd] at h4
            rw [if_neg (by rw [h4]; simp)]
            obtain ⟨v4, n4, sl4, SH4, FI4, FL4, FR4, hc, h⟩ := h
            exact bad60 _ _ _ _ _ _ h (f_fault hc (by decide))
          · rw [tk_place hd] at h4
            have hi : lp_is (K t) (W t) = true := by
              cases e : lp_is (K t) (W t) with
              | true => rfl
              | false => exact absurd e h4
            rcases h with ⟨h5, h⟩ | ⟨h5, h⟩
            · rw [hl2, c8] at h5
              rw [if_neg (by rintro ⟨-, h⟩; omega)]
              obtain ⟨v4, n4, sl4, SH4, FI4, FL4, FR4, hc, h⟩ := h
              exact bad60 _ _ _ _ _ _ h (f_fault hc (by decide))
            · rw [hl2, c8] at h5
              rw [if_pos ⟨hi, by omega⟩]
              rcases h with ⟨h6, h⟩ | ⟨h6, h⟩
              · obtain ⟨v4, n4, sl4, SH4, FI4, FL4, FR4, hc, v5, n5, sl5, SH5, FI5, FL5, FR5, hn, h⟩ := h
                have kc := kX12_place hc
                have kn := kX12_need hn
                have zc : z_k FI FI4 := z_kq kc (by decide) (by decide)
                have zn : z_k FI4 FI5 := z_kq kn (by decide) (by decide)
                have hS5 : h_S n5 SH5 := by rw [show n5 = n4 from kn.1, show n4 = n from kc.1, show SH5 = SH4 from kn.2.2.1, show SH4 = SH from kc.2.2.1]; exact hS
                have bad5 : (FI5 121 69).toInt ≠ 0 → (s.2.2.2.1 121 69).toInt ≠ 0 := by
                  intro hz
                  rcases h with ⟨h7, h⟩ | ⟨h7, h⟩
                  · exact absurd h7 hz
                  · exact bad103 _ _ _ _ _ _ h hz
                have q := d_place hc hS hg hT hT2 ht hf hd (by decide) (by decide) hi
                generalize lp_pl K W f 1 t = r at q
                match r, q with
                | none, q => exact bad5 (kn.2.2.2.2.2.2 q)
                | some (t1, c), ⟨q1, q2, q3⟩ =>
                  dsimp only
                  rcases q3 with ⟨q3, q4⟩ | q4
                  · rw [if_neg (by rintro ⟨e1, e2, -⟩; rw [e1, e2] at q3; exact absurd q3 (by decide))]
                    exact bad5 (kn.2.2.2.2.2.2 q4)
                  · rcases d_need hn (by decide : ((47 : Int32)).toInt = 47) q4 (by omega) with ⟨g3, g4, g5⟩ | ⟨g3, g4⟩
                    · have ht1 := lt_T hT q2 (by omega)
                      have hK : (FI5 149 (FI5 121 68).toInt.toNat).toInt = K (t1 + 1) := by rw [tk_i g5.1, tk_K g5.1]
                      have hW : (FL5 150 (FI5 121 68).toInt.toNat).toInt = W (t1 + 1) := by rw [tk_i g5.1, tk_W g5.1]
                      rcases h with ⟨h7, h⟩ | ⟨h7, h⟩
                      · obtain ⟨-, h⟩ := h
                        rcases h with ⟨h8, h⟩ | ⟨h8, h⟩
                        · rw [hK, c3] at h8
                          have hr := (hg (t1 + 1)).1 h8
                          have ht2 := lt_T hT ht1 (by omega)
                          rcases h with ⟨h9, h⟩ | ⟨h9, h⟩
                          · obtain ⟨-, h⟩ := h
                            rcases h with ⟨h10, h⟩ | ⟨h10, h⟩
                            · rw [hW, c64] at h10
                              rw [if_neg (by omega)]
                              obtain ⟨v6, n6, sl6, SH6, FI6, FL6, FR6, hx, h⟩ := h
                              exact bad131 _ _ _ _ _ _ h (f_fault hx (by decide))
                            · rw [hW, c64] at h10
                              rw [if_pos ⟨g3, g4, h8, by omega⟩]
                              rcases h with ⟨h11, h⟩ | ⟨h11, h⟩
                              · obtain ⟨v6, n6, sl6, SH6, FI6, FL6, FR6, hx, -, v7, n7, sl7, SH7, FI7, FL7, FR7, hy, h⟩ := h
                                have kx := kX12_emit hx
                                have ky := kX12_unsigned hy
                                have zx : z_k FI5 FI6 := z_kq kx (by decide) (by decide)
                                have zy : z_k FI6 FI7 := z_kq ky (by decide) (by decide)
                                have r1 := d_em (a := (n5, sl5, SH5, FI5, FL5, FR5)) (b := (n6, sl6, SH6, FI6, FL6, FR6)) g5 kx (em_emit (b := 147) hx (by decide)) (by decide)
                                have hW6 : (FL6 150 (FI6 121 68).toInt.toNat).toInt = W (t1 + 1) := by rw [tk_i r1.1, tk_W r1.1]
                                have ey := em_unsigned hy (by rw [hW6]; omega)
                                rw [hW6] at ey
                                have r2 := d_em (a := (n6, sl6, SH6, FI6, FL6, FR6)) (b := (n7, sl7, SH7, FI7, FL7, FR7)) r1 ky ey (by decide)
                                have r3 := d_ti r2 (tk_n1 r2.1) (by omega)
                                have e1 : B ++ c ++ [147] ++ lc_u 9 (W (t1 + 1)) = B ++ (c ++ 147 :: lc_u 9 (W (t1 + 1))) := by simp
                                rw [e1] at r3
                                have hS7 : h_S n7 SH7 := by rw [show n7 = n6 from ky.1, show n6 = n5 from kx.1, show SH7 = SH6 from ky.2.2.1, show SH6 = SH5 from kx.2.2.1]; exact hS5
                                have zz := z_tr (z_tr (z_tr (z_tr zc zn) zx) zy) (z_fl (k := 68) (x := FI7 121 68 + 1) (by decide))
                                have hsg := tk_sign (SH := SH7) (FR := FR7) r3.1 (by decide : ((44 : Int32)).toInt = 44)
                                rcases h with ⟨h12, h⟩ | ⟨h12, h⟩
                                · have n44 := hsg.mp h12
                                  rw [if_neg n44]
                                  -- the last part: '}' is wanted
                                  cases g with
                                  | zero => exact h.elim
                                  | succ g =>
                                    rcases h with ⟨h13, h⟩ | ⟨h13, h⟩
                                    · obtain ⟨v8, n8, sl8, SH8, FI8, FL8, FR8, hz, h⟩ := h
                                      have kz := kX12_need hz
                                      rcases d_need hz (by decide : ((125 : Int32)).toInt = 125) r3 (by omega) with ⟨w3, w4, w5⟩ | ⟨w3, w4⟩
                                      · rw [if_pos ⟨w3, w4⟩]
                                        have ht3 : t1 + 3 ≤ T := lt_T (t := t1 + 2) hT ht2 (by have w3b : K (t1 + 2) = 5 := w3; omega)
                                        refine ⟨by omega, ht3, n8, sl8, SH8, _, FL8, FR8, h, d_op (o1 := 0) w5 (by rw [i_sub w5.2.2.1 (by decide : ((1 : Int32)).toInt = 1) (by decide) (by decide)]; rfl), z_tr (z_tr zz (z_kq kz (by decide) (by decide))) (z_fl (by decide))⟩
                                      · rw [if_neg w3]
                                        refine (kX12_location_235 h).2.2.2.2.2.2 ?_
                                        try dsimp only
                                        rw [h_up_x (by decide)]
                                        exact w4
                                    · exact absurd h12 h13
                                · have h44 : K (t1 + 2) = 5 ∧ W (t1 + 2) = 44 := Classical.byContradiction (fun hn => h12 (hsg.mpr hn))
                                  rw [if_pos h44]
                                  have ht3 : t1 + 3 ≤ T := lt_T (t := t1 + 2) hT ht2 (by omega)
                                  have r4 := d_ti r3 (x := (FI7 121 68 + 1) + 1) (t1 := t1 + 3) (by
                                    rw [i_add (tk_n1 r2.1) (by decide : ((1 : Int32)).toInt = 1) (by omega) (by omega)]; omega) (by omega)
                                  have k := ih (l2 + 1) _ n7 sl7 SH7 _ FL7 FR7 v s g2 (m + 1) (t1 + 3) (B ++ (c ++ 147 :: lc_u 9 (W (t1 + 1)))) h hS7 h12 (by rw [i_add hl2 (by decide : ((1 : Int32)).toInt = 1) (by omega) (by omega)]; omega) (by omega) (by omega) ht3 r4
                                  generalize lp_pt K W f g2 (m + 1) (t1 + 3) = r at k
                                  match r, k with
                                  | none, k => exact k
                                  | some (t2, c2), ⟨k1, k2, n8, sl8, SH8, FI8, FL8, FR8, k3, k4, k5⟩ =>
                                    refine ⟨by omega, k2, n8, sl8, SH8, FI8, FL8, FR8, k3, ?_, z_tr (z_tr zz (z_fl (by decide))) k5⟩
                                    have e2 : B ++ (c ++ 147 :: lc_u 9 (W (t1 + 1))) ++ c2 = B ++ (c ++ 147 :: (lc_u 9 (W (t1 + 1)) ++ c2)) := by simp
                                    rw [e2] at k4
                                    exact k4
                              · exact absurd g5.2.1 h11
                          · exact absurd g5.2.1 h9
                        · rw [hK, c3] at h8
                          rw [if_neg (by omega)]
                          obtain ⟨v6, n6, sl6, SH6, FI6, FL6, FR6, hx, h⟩ := h
                          exact bad103 _ _ _ _ _ _ h (f_fault hx (by decide))
                      · exact absurd g5.2.1 h7
                    · rw [if_neg (by rintro ⟨e1, e2, -⟩; exact g3 ⟨e1, e2⟩)]
                      exact bad5 g4
              · exact absurd hd.2.1 h6
        · exact absurd hd.2.1 h2
end LO
