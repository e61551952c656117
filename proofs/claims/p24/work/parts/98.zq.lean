/-! THE CLASS'S PARSER: what a place says. -/
/-- a place's bytes -/
def w_pl (F : Nat → Nat → Int32) (L : Nat → Nat → Int64) (R : Nat → Nat → Option Nat) (SH : Nat → Nat × Nat) (c : Nat) (code : List Int) : Prop := 176 ≤ c ∧ (((F c 0).toInt = 1 ∧ ∃ f, n_cd F L R f 0 (R c 2) 0 = some code) ∨ ((F c 0).toInt = 2 ∧ 0 ≤ (L c 1).toInt ∧ (L c 1).toInt ≤ 31 ∧ code = [80 + (L c 1).toInt]) ∨ ((F c 0).toInt = 3 ∧ ∃ f a, n_cd F L R f 0 (R c 2) 0 = some a ∧ code = a ++ [159]) ∨ ((F c 0).toInt = 4 ∧ ∃ b bs, R c 3 = some b ∧ 176 ≤ b ∧ (SH b).2 = bs.length ∧ bs.length ≤ 64 ∧ (∀ i, i < bs.length → (F b i).toInt = bs.getD i 0 ∧ 0 ≤ bs.getD i 0 ∧ bs.getD i 0 ≤ 255) ∧ code = 158 :: (bs.length : Int) :: bs) ∨ ((F c 0).toInt = 0 ∧ code = []))
/-- heaps that agree on its cells, but for its width and what is behind it -/
def m_ag (lo hi c : Nat) (FI : Nat → Nat → Int32) (FL : Nat → Nat → Int64) (FR : Nat → Nat → Option Nat) (SH : Nat → Nat × Nat) (F2 : Nat → Nat → Int32) (L2 : Nat → Nat → Int64) (R2 : Nat → Nat → Option Nat) (S2 : Nat → Nat × Nat) : Prop := (∀ q k, lo ≤ q → q < hi → ¬ (q = c ∧ k = 4) → F2 q k = FI q k) ∧ (∀ q k, lo ≤ q → q < hi → L2 q k = FL q k) ∧ (∀ q k, lo ≤ q → q < hi → ¬ (q = c ∧ k = 5) → R2 q k = FR q k) ∧ (∀ q, lo ≤ q → q < hi → S2 q = SH q)
def m_pl (FI : Nat → Nat → Int32) (FL : Nat → Nat → Int64) (FR : Nat → Nat → Option Nat) (SH : Nat → Nat × Nat) (lo hi c : Nat) (code : List Int) : Prop := 176 ≤ lo ∧ lo ≤ c ∧ c < hi ∧ ∀ F2 L2 R2 S2, m_ag lo hi c FI FL FR SH F2 L2 R2 S2 → w_pl F2 L2 R2 S2 c code
theorem m_pl_fr {FI F2 : Nat → Nat → Int32} {FL L2 : Nat → Nat → Int64} {FR R2 : Nat → Nat → Option Nat} {SH S2 : Nat → Nat × Nat} {lo hi c : Nat} {code : List Int} (h : m_pl FI FL FR SH lo hi c code) (ha : m_ag lo hi c FI FL FR SH F2 L2 R2 S2) : m_pl F2 L2 R2 S2 lo hi c code :=
  ⟨h.1, h.2.1, h.2.2.1, fun F3 L3 R3 S3 h3 => h.2.2.2 F3 L3 R3 S3 ⟨fun q k a b e => (h3.1 q k a b e).trans (ha.1 q k a b e), fun q k a b => (h3.2.1 q k a b).trans (ha.2.1 q k a b), fun q k a b e => (h3.2.2.1 q k a b e).trans (ha.2.2.1 q k a b e), fun q a b => (h3.2.2.2 q a b).trans (ha.2.2.2 q a b)⟩⟩
/-- lp_pl with fuel enough, where a place may stand -/
def l_pl (K W : Nat → Int) (o : Int) (t : Nat) (r : Option (Nat × List Int)) : Prop := ∃ F0, ∀ f, F0 ≤ f → (if lp_is (K t) (W t) = true then lp_pl K W f o t else none) = r
section PQ
variable {K W : Nat → Int} {M : Nat} {n sl : Nat} {SH : Nat → Nat × Nat} {FI : Nat → Nat → Int32} {FL : Nat → Nat → Int64} {FR : Nat → Nat → Option Nat} {v : Option Nat} {s : hS} {t : Nat} {o : Int}
/-- the number of a register -/
theorem s_reg {c : Nat} {w : Int64} {u : Unit} {n1 sl1 : Nat} {SH1 : Nat → Nat × Nat} {FI1 : Nat → Nat → Int32} {FL1 : Nat → Nat → Int64} {FR1 : Nat → Nat → Option Nat} (hc : 176 ≤ c) (h : RX4_refuseHighRegister n sl SH FI FL FR w (n1, sl1, SH1, FI1, FL1, FR1)) (h2 : RX4_expect (5 : Int32) n1 sl1 SH1 FI1 (h_up FL1 c 1 w) FR1 u s) (hq : q_tk K W M FI FL) (hv : s_vw M FI FL t o) : ∃ F2 L2, s = (n, sl, SH, F2, L2, FR) ∧ a_fr FI F2 (h_up FL c 1 w) L2 ∧ ((K t = 3 ∧ W t ≤ 31 ∧ 0 ≤ W t ∧ (L2 c 1).toInt = W t ∧ s_vw M F2 L2 (t + 1) o) ∨ (¬ (K t = 3 ∧ W t ≤ 31) ∧ s_ft F2)) := by
  have z5 : ((5 : Int32)).toInt = 5 := by decide
  have z32 : ((32 : Int64)).toInt = 32 := by decide
  have kd := s_kd hq hv
  rcases h with ⟨h5, h⟩ | ⟨h5, rfl, e⟩
  · rw [z5] at h5
    rcases kd with ⟨ht, kd, -, kr, k3, -⟩ | ⟨-, -, kd⟩
    · have ce := ck_e kr
      have hK : K t = 3 := by omega
      obtain ⟨j1, j2, j3⟩ := k3 hK
      rcases h with ⟨h32, rfl, e⟩ | ⟨h32, h⟩
      · rw [z32] at h32
        cases e
        obtain ⟨q1, w1⟩ := s_wL (c := c) (k := 1) (x := FL 110 9) hc ⟨hq, hv⟩
        obtain ⟨F2, L2, e, a2, r⟩ := s_expect (w := 5) h2 (by decide) (by decide) q1 w1
        rcases r with ⟨-, -, w2⟩ | ⟨r, -⟩
        · exact ⟨F2, L2, e, a2, Or.inl ⟨hK, by omega, j2, by rw [a2.2 c 1 (by omega), h_up_eq]; exact j1, w2⟩⟩
        · exfalso
          have := r ht
          omega
      · rw [z32] at h32
        obtain ⟨v2, n2, sl2, SH2, FI2, FL2, FR2, hr, rfl, e⟩ := h
        obtain ⟨F3, e', a3, ft⟩ := s_refuse hr (by decide) hq hv
        cases e'
        cases e
        have e := s_expect_f h2 ft.1
        exact ⟨_, _, e, ⟨a3.1, fun _ _ _ => rfl⟩, Or.inr ⟨by omega, ft⟩⟩
    · exfalso; omega
  · rw [z5] at h5
    cases e
    obtain ⟨q1, w1⟩ := s_wL (c := c) (k := 1) (x := FL 110 9) hc ⟨hq, hv⟩
    obtain ⟨F2, L2, e, a2, r⟩ := s_expect (w := 5) h2 (by decide) (by decide) q1 w1
    have n3 : K t ≠ 3 := by
      rcases kd with ⟨-, kd, -, kr, -, -⟩ | ⟨-, kK, -⟩
      · intro h3
        have ce := ck_e kr
        omega
      · omega
    rcases r with ⟨ht, r, -⟩ | ⟨-, ft⟩
    · exfalso
      rcases kd with ⟨-, kd, -⟩ | ⟨e, -⟩
      · omega
      · omega
    · exact ⟨F2, L2, e, a2, Or.inr ⟨fun h => n3 h.1, ft⟩⟩
theorem s_begins : (fX4_beginsPlace (FI 110 8) SH FI FL FR).toInt = 0 ↔ ¬ ((FI 110 8).toInt = 7 ∨ (FI 110 8).toInt = 91 ∨ (FI 110 8).toInt = 8 ∨ (FI 110 8).toInt = 9 ∨ (FI 110 8).toInt = 10) := by
  unfold fX4_beginsPlace
  rw [show ((7 : Int32)).toInt = 7 by decide, show ((91 : Int32)).toInt = 91 by decide, show ((8 : Int32)).toInt = 8 by decide, show ((9 : Int32)).toInt = 9 by decide, show ((10 : Int32)).toInt = 10 by decide]
  have z1 : ((1 : Int32)).toInt = 1 := by decide
  have z0 : ((0 : Int32)).toInt = 0 := by decide
  by_cases h1 : (FI 110 8).toInt = 7
  · rw [if_pos h1, z1]; omega
  · rw [if_neg h1]
    by_cases h2 : (FI 110 8).toInt = 91
    · rw [if_pos h2, z1]; omega
    · rw [if_neg h2]
      by_cases h3 : (FI 110 8).toInt = 8
      · rw [if_pos h3, z1]; omega
      · rw [if_neg h3]
        by_cases h4 : (FI 110 8).toInt = 9
        · rw [if_pos h4, z1]; omega
        · rw [if_neg h4]
          by_cases h5 : (FI 110 8).toInt = 10
          · rw [if_pos h5, z1]; omega
          · rw [if_neg h5, z0]; omega
/-- where a place may stand -/
theorem s_is (hq : q_tk K W M FI FL) (hv : s_vw M FI FL t o) : (lp_is (K t) (W t) = true ↔ ((FI 110 8).toInt = 7 ∨ (FI 110 8).toInt = 91 ∨ (FI 110 8).toInt = 8 ∨ (FI 110 8).toInt = 9 ∨ (FI 110 8).toInt = 10)) ∧ ((FI 110 8).toInt = 7 → t < M ∧ K t = 2 ∧ W t = 0) ∧ ((FI 110 8).toInt = 91 → t < M ∧ K t = 5 ∧ W t = 91) ∧ ((FI 110 8).toInt = 8 → t < M ∧ K t = 2 ∧ W t = 1) ∧ ((FI 110 8).toInt = 9 → t < M ∧ K t = 2 ∧ W t = 2) ∧ ((FI 110 8).toInt = 10 → t < M ∧ K t = 2 ∧ W t = 3) := by
  have hi : lp_is (K t) (W t) = true ↔ ((K t = 5 ∧ W t = 91) ∨ (K t = 2 ∧ (W t = 0 ∨ W t = 1 ∨ W t = 2 ∨ W t = 3))) := by
    unfold lp_is
    rw [decide_eq_true_eq]
  rw [hi]
  rcases s_kd hq hv with ⟨ht, kd, -, kr, -⟩ | ⟨-, kK, kd⟩
  · have ce := ck_e kr
    refine ⟨by omega, ?_, ?_, ?_, ?_, ?_⟩ <;> intro h <;> omega
  · refine ⟨by omega, ?_, ?_, ?_, ?_, ?_⟩ <;> intro h <;> omega
theorem s_place (hQ : h_S n SH) (hq : q_tk K W M FI FL) (hv : s_vw M FI FL t o) (h0 : 0 ≤ o) (h1 : o ≤ 1) (h : RX4_readPlace n sl SH FI FL FR v s) : ∃ n2 sl2 SH2 F2 L2 R2, v = some n ∧ s = (n2, sl2, SH2, F2, L2, R2) ∧ n < n2 ∧ b_ct n SH FI FL FR n2 SH2 F2 L2 R2 ∧ (F2 n 4).toInt = -1 ∧ R2 n 5 = none ∧ ((∃ t2 code, l_pl K W o t (some (t2, code)) ∧ t < t2 ∧ s_vw M F2 L2 t2 o ∧ m_pl F2 L2 R2 SH2 n n2 n code) ∨ (l_pl K W o t none ∧ s_ft F2)) := by
  have h176 := hQ.1
  obtain ⟨v0, n0, sl0, SH0, FI0, FL0, FR0, k0, v1, n1, sl1, SH1, FI1, FL1, FR1, k1, h⟩ := h
  have fz := b_nwz k0
  obtain ⟨sl', SH', F', L', R', e, q0, q1, q2, q3⟩ := b_nw hQ k0
  cases e
  obtain ⟨-, e⟩ := k1
  cases e
  have hQ1 := q0.2.1
  have b1 := b_wI (k := 4) (x := (-1 : Int32)) q0 h176 (Nat.le_refl _)
  obtain ⟨hq1, hv1⟩ := s_wI (c := n) (k := 4) (x := (-1 : Int32)) h176 (s_new h176 q0 q2 q3 hq hv)
  have is := s_is hq1 hv1
  have em : ((-1 : Int32)).toInt = -1 := by decide
  -- the cell of the place, before what it says is read
  obtain ⟨fI, hfI⟩ : ∃ f, f = h_up FI0 n 4 (-1 : Int32) := ⟨_, rfl⟩
  rw [← hfI] at h b1 hq1 hv1 is
  have f4 : (fI n 4).toInt = -1 := by rw [hfI, h_up_eq]; exact em
  have f0 : fI n 0 = 0 := by rw [hfI, h_up_ne (by decide)]; exact fz 0
  have r5 : FR0 n 5 = none := q1 5
  rcases h with ⟨hb, h⟩ | ⟨hb, h⟩
  · -- no place
    obtain ⟨v4, n4, sl4, SH4, FI4, FL4, FR4, hr, h⟩ := h
    rw [s_begins] at hb
    obtain ⟨F4, e, a4, ft⟩ := s_refuse hr (by decide) hq1 hv1
    cases e
    have hX : v = some n ∧ s = (n + 1, sl0, SH0, FI4, FL0, FR0) := by
      rcases h with ⟨h7, -⟩ | ⟨-, h⟩
      · exfalso; exact hb (Or.inl h7)
      · rcases h with ⟨h7, -⟩ | ⟨-, h⟩
        · exfalso; exact hb (Or.inr (Or.inl h7))
        · rcases h with ⟨h7, -⟩ | ⟨-, h⟩
          · exfalso; exact hb (Or.inr (Or.inr (Or.inl h7)))
          · rcases h with ⟨h7, -⟩ | ⟨-, rfl, rfl⟩
            · exfalso; exact hb (Or.inr (Or.inr (Or.inr (Or.inl h7))))
            · exact ⟨rfl, rfl⟩
    obtain ⟨rfl, rfl⟩ := hX
    refine ⟨_, _, _, _, _, _, rfl, rfl, by omega, b_tr b1 (b_a hQ1 a4 (fun h => absurd hv1.1 h)), by rw [a4.1 n 4 (by omega)]; exact f4, r5, Or.inr ⟨⟨0, fun f _ => ?_⟩, ft⟩⟩
    rw [if_neg (fun h => hb (is.1.mp h))]
  · rw [s_begins] at hb
    have hi : lp_is (K t) (W t) = true := is.1.mpr (Classical.byContradiction hb)
    rcases h with ⟨h91, h⟩ | ⟨h91, h⟩
    · -- [ E ]
      have h91 : (fI 110 8).toInt = 91 := h91
      obtain ⟨ht, hK⟩ := is.2.2.1 h91
      obtain ⟨v6, n6, sl6, SH6, FI6, FL6, FR6, hr, h⟩ := h
      obtain ⟨F6, e, a6, r6⟩ := s_raise hr hq1 hv1 h0
      cases e
      rcases r6 with ⟨ho, w6, w⟩ | ⟨ho, -, -⟩
      · rcases h with ⟨hz, -⟩ | ⟨-, h⟩
        · exfalso; omega
        · have hq6 := q_a hq1 a6
          obtain ⟨v7, n7, sl7, SH7, FI7, FL7, FR7, hk, h⟩ := h
          obtain ⟨F7, L7, e, a7, w7⟩ := s_take hk hq6 w ht
          cases e
          have hq7 := q_a hq6 a7
          rcases h with ⟨h7, -⟩ | ⟨-, h⟩
          · exfalso
            have h7 : (fI 110 8).toInt = 7 := h7
            omega
          · rcases h with ⟨-, h⟩ | ⟨hn, -⟩
            · obtain ⟨c7, e7, v8, n8, sl8, SH8, FI8, FL8, FR8, hm, c9, e9, v9, n9, sl9, SH9, FI9, FL9, FR9, hx, rfl, rfl⟩ := h
              cases e7
              cases e9
              obtain ⟨hq8, w8⟩ := s_wI (c := n) (k := 0) (x := (1 : Int32)) h176 ⟨hq7, w7⟩
              obtain ⟨c, n10, sl10, SH10, F10, L10, R10, rfl, e, g1, g2, qc, -, po⟩ := s_choice hQ1 hq8 w8 (by omega) (by omega) hm
              cases e
              have m8 := qc.1
              have b8 : b_ct n SH FI FL FR n8 SH8 FI8 FL8 FR8 := b_tr (b_wI (k := 0) (x := (1 : Int32)) (b_tr b1 (b_tr (b_a hQ1 a6 (fun h => absurd hv1.1 h)) (b_a hQ1 a7 (fun h => absurd w.1 h)))) h176 (Nat.le_refl _)) qc
              have e8 : ∀ k, FI8 n k = h_up FI7 n 0 (1 : Int32) n k := fun k => qc.2.2.1 n k (by omega) (by omega)
              have e84 : (FI8 n 4).toInt = -1 := by rw [e8, h_up_ne (by decide), a7.1 n 4 (by omega), a6.1 n 4 (by omega)]; exact f4
              have e80 : (FI8 n 0).toInt = 1 := by rw [e8, h_up_eq]; decide
              have r85 : FR8 n 5 = none := by rw [qc.2.2.2.2.1 n 5 (by omega)]; exact r5
              have b9 := b_wR (k := 2) (x := some c) b8 (Nat.le_refl n)
              rcases po with ⟨t2, code, lev, ht2, w9, nis, pk, -⟩ | ⟨lev, ft⟩
              · have hq9 := q_b hq8 qc (by omega)
                obtain ⟨F9', L9', e, a9, r9⟩ := s_expect (w := 93) hx (by decide) (by decide) hq9 w9
                cases e
                have b10 := b_w4 (x := FI9 110 4 - (1 : Int32)) (b_tr b9 (b_a qc.2.1 a9 (fun h => absurd w9.1 h)))
                obtain ⟨F0, lev⟩ := lev
                rcases r9 with ⟨ht3, rr, w10⟩ | ⟨rr, ft⟩
                · have kr2 := (hq9.2.1 t2 ht3).2.1
                  have ce2 := ck_e kr2
                  refine ⟨_, _, _, _, _, _, rfl, rfl, by omega, b10, by rw [h_up_nc (by omega), a9.1 n 4 (by omega)]; exact e84, by rw [h_up_ne (by decide)]; exact r85, Or.inl ⟨t2 + 1, code, ⟨F0, fun f hf => ?_⟩, by omega, s_low w10 h0 (by omega), h176, Nat.le_refl _, by omega, fun F2 L2 R2 S2 ha => ?_⟩⟩
                  · rw [if_pos hi]
                    unfold lp_pl
                    rw [if_pos hK, if_neg (by omega), lev f hf]
                    dsimp only
                    rw [if_pos (by omega)]
                  · have x0 : (F2 n 0).toInt = 1 := by rw [ha.1 n 0 (Nat.le_refl _) (by omega) (by omega), h_up_nc (by omega), a9.1 n 0 (by omega)]; exact e80
                    have x2 : R2 n 2 = some c := by rw [ha.2.2.1 n 2 (Nat.le_refl _) (by omega) (by omega), h_up_eq]
                    obtain ⟨fc, hfc⟩ := nis.2.2.2 F2 L2 R2 ⟨fun q k y1 y2 _ _ => by rw [ha.1 q k (by omega) (by omega) (by omega), h_up_nc (by omega)]; exact a9.1 q k (by omega), fun q k y1 y2 _ => by rw [ha.2.1 q k (by omega) (by omega)]; exact a9.2 q k (by omega), fun q k y1 y2 _ _ => by rw [ha.2.2.1 q k (by omega) (by omega) (by omega), h_up_nc (by omega)]⟩ 0 (by unfold p_H; omega)
                    exact ⟨h176, Or.inl ⟨x0, fc, by rw [x2]; exact hfc⟩⟩
                · have n93 : ¬ (K t2 = 5 ∧ W t2 = 93) := by
                    intro h93
                    rcases s_kd hq9 w9 with ⟨k1, -, -, kr2, -⟩ | ⟨-, k1, -⟩
                    · have ce2 := ck_e kr2
                      have := rr k1
                      omega
                    · omega
                  refine ⟨_, _, _, _, _, _, rfl, rfl, by omega, b10, by rw [h_up_nc (by omega), a9.1 n 4 (by omega)]; exact e84, by rw [h_up_ne (by decide)]; exact r85, Or.inr ⟨⟨F0, fun f hf => ?_⟩, ft_4 ft⟩⟩
                  rw [if_pos hi]
                  unfold lp_pl
                  rw [if_pos hK, if_neg (by omega), lev f hf]
                  dsimp only
                  rw [if_neg n93]
              · have e := s_expect_f hx ft.1
                cases e
                obtain ⟨F0, lev⟩ := lev
                refine ⟨_, _, _, _, _, _, rfl, rfl, by omega, b_w4 b9, by rw [h_up_nc (by omega)]; exact e84, by rw [h_up_ne (by decide)]; exact r85, Or.inr ⟨⟨F0, fun f hf => ?_⟩, ft_4 ft⟩⟩
                rw [if_pos hi]
                unfold lp_pl
                rw [if_pos hK, if_neg (by omega), lev f hf]
            · exact absurd h91 hn
      · exfalso; omega
    · -- reg, value, bytes, none
      have h91 : (fI 110 8).toInt ≠ 91 := h91
      have hW : t < M ∧ K t = 2 := by
        rcases Classical.byContradiction hb with x | x | x | x | x
        · have := is.2.1 x; omega
        · exact absurd x h91
        · have := is.2.2.2.1 x; omega
        · have := is.2.2.2.2.1 x; omega
        · have := is.2.2.2.2.2 x; omega
      have hn5 : ¬ (K t = 5 ∧ W t = 91) := by omega
      obtain ⟨v7, n7, sl7, SH7, FI7, FL7, FR7, hk, h⟩ := h
      obtain ⟨F7, L7, e, a7, w7⟩ := s_take hk hq1 hv1 hW.1
      cases e
      have hq7 := q_a hq1 a7
      have b7 := b_tr b1 (b_a hQ1 a7 (fun h => absurd hv1.1 h))
      have e74 : (FI7 n 4).toInt = -1 := by rw [a7.1 n 4 (by omega)]; exact f4
      rcases h with ⟨h7, h⟩ | ⟨h7, h⟩
      · -- reg
        have h7 : (fI 110 8).toInt = 7 := h7
        obtain ⟨-, -, hW0⟩ := is.2.1 h7
        obtain ⟨c2, e2, v2, n2, sl2, SH2, FI2, FL2, FR2, hh, c4, e4, v4, n4, sl4, SH4, FI4, FL4, FR4, hx, rfl, rfl⟩ := h
        cases e2
        cases e4
        obtain ⟨hq8, w8⟩ := s_wI (c := n) (k := 0) (x := (2 : Int32)) h176 ⟨hq7, w7⟩
        obtain ⟨F9, L9, e, a9, r9⟩ := s_reg h176 hh hx hq8 w8
        cases e
        have b9 : b_ct n SH FI FL FR (n + 1) SH0 FI4 FL4 FR0 := b_tr (b_wL (k := 1) (x := v2) (b_wI (k := 0) (x := (2 : Int32)) b7 h176 (Nat.le_refl _)) (Nat.le_refl _)) (b_a hQ1 a9 (fun h => absurd w8.1 h))
        have e94 : (FI4 n 4).toInt = -1 := by rw [a9.1 n 4 (by omega), h_up_ne (by decide)]; exact e74
        have e90 : (FI4 n 0).toInt = 2 := by rw [a9.1 n 0 (by omega), h_up_eq]; decide
        rcases r9 with ⟨k3, k31, k0', l1, w9⟩ | ⟨kn, ft⟩
        · refine ⟨_, _, _, _, _, _, rfl, rfl, by omega, b9, e94, r5, Or.inl ⟨t + 2, [80 + W (t + 1)], ⟨0, fun f hf => ?_⟩, by omega, w9, h176, Nat.le_refl _, by omega, fun F2 L2 R2 S2 ha => ⟨h176, Or.inr (Or.inl ⟨?_, ?_, ?_, ?_⟩)⟩⟩⟩
          · rw [if_pos hi]
            unfold lp_pl
            rw [if_neg hn5, if_pos hW0, if_pos ⟨k3, k31⟩]
          · rw [ha.1 n 0 (Nat.le_refl _) (by omega) (by omega)]; exact e90
          · rw [ha.2.1 n 1 (Nat.le_refl _) (by omega), l1]; exact k0'
          · rw [ha.2.1 n 1 (Nat.le_refl _) (by omega), l1]; exact k31
          · rw [ha.2.1 n 1 (Nat.le_refl _) (by omega), l1]
        · refine ⟨_, _, _, _, _, _, rfl, rfl, by omega, b9, e94, r5, Or.inr ⟨⟨0, fun f hf => ?_⟩, ft⟩⟩
          rw [if_pos hi]
          unfold lp_pl
          rw [if_neg hn5, if_pos hW0, if_neg kn]
      · have h7 : (fI 110 8).toInt ≠ 7 := h7
        have hW0 : W t ≠ 0 := by
          rcases Classical.byContradiction hb with x | x | x | x | x
          · exact absurd x h7
          · exact absurd x h91
          · have := is.2.2.2.1 x; omega
          · have := is.2.2.2.2.1 x; omega
          · have := is.2.2.2.2.2 x; omega
        rcases h with ⟨h, -⟩ | ⟨-, h⟩
        · exact absurd h h91
        · rcases h with ⟨h8, h⟩ | ⟨h8, h⟩
          · -- value
            have h8 : (fI 110 8).toInt = 8 := h8
            obtain ⟨-, -, hW1⟩ := is.2.2.2.1 h8
            obtain ⟨c7, e7, v8, n8, sl8, SH8, FI8, FL8, FR8, hm, c9, e9, rfl, rfl⟩ := h
            cases e7
            cases e9
            obtain ⟨hq8, w8⟩ := s_wI (c := n) (k := 0) (x := (3 : Int32)) h176 ⟨hq7, w7⟩
            obtain ⟨c, n10, sl10, SH10, F10, L10, R10, rfl, e, g1, g2, qc, -, po⟩ := s_choice hQ1 hq8 w8 h0 (by omega) hm
            cases e
            have m8 := qc.1
            have b8 : b_ct n SH FI FL FR n8 SH8 FI8 FL8 FR8 := b_tr (b_wI (k := 0) (x := (3 : Int32)) b7 h176 (Nat.le_refl _)) qc
            have e8 : ∀ k, FI8 n k = h_up FI7 n 0 (3 : Int32) n k := fun k => qc.2.2.1 n k (by omega) (by omega)
            have e84 : (FI8 n 4).toInt = -1 := by rw [e8, h_up_ne (by decide)]; exact e74
            have e80 : (FI8 n 0).toInt = 3 := by rw [e8, h_up_eq]; decide
            have r85 : FR8 n 5 = none := by rw [qc.2.2.2.2.1 n 5 (by omega)]; exact r5
            have b9 := b_wR (k := 2) (x := some c) b8 (Nat.le_refl n)
            rcases po with ⟨t2, code, lev, ht2, w9, nis, pk, -⟩ | ⟨lev, ft⟩
            · obtain ⟨F0, lev⟩ := lev
              refine ⟨_, _, _, _, _, _, rfl, rfl, by omega, b9, e84, by rw [h_up_ne (by decide)]; exact r85, Or.inl ⟨t2, code ++ [159], ⟨F0, fun f hf => ?_⟩, by omega, w9, h176, Nat.le_refl _, by omega, fun F2 L2 R2 S2 ha => ?_⟩⟩
              · rw [if_pos hi]
                unfold lp_pl
                rw [if_neg hn5, if_neg hW0, if_pos hW1, lev f hf]
              · have x0 : (F2 n 0).toInt = 3 := by rw [ha.1 n 0 (Nat.le_refl _) (by omega) (by omega)]; exact e80
                have x2 : R2 n 2 = some c := by rw [ha.2.2.1 n 2 (Nat.le_refl _) (by omega) (by omega), h_up_eq]
                obtain ⟨fc, hfc⟩ := nis.2.2.2 F2 L2 R2 ⟨fun q k y1 y2 _ _ => ha.1 q k (by omega) (by omega) (by omega), fun q k y1 y2 _ => ha.2.1 q k (by omega) (by omega), fun q k y1 y2 _ _ => by rw [ha.2.2.1 q k (by omega) (by omega) (by omega), h_up_nc (by omega)]⟩ 0 (by unfold p_H; omega)
                exact ⟨h176, Or.inr (Or.inr (Or.inl ⟨x0, fc, code, by rw [x2]; exact hfc, rfl⟩))⟩
            · obtain ⟨F0, lev⟩ := lev
              refine ⟨_, _, _, _, _, _, rfl, rfl, by omega, b9, e84, by rw [h_up_ne (by decide)]; exact r85, Or.inr ⟨⟨F0, fun f hf => ?_⟩, ft⟩⟩
              rw [if_pos hi]
              unfold lp_pl
              rw [if_neg hn5, if_neg hW0, if_pos hW1, lev f hf]
          · have h8 : (fI 110 8).toInt ≠ 8 := h8
            rcases h with ⟨h9, h⟩ | ⟨h9, h⟩
            · -- bytes
              have h9 : (fI 110 8).toInt = 9 := h9
              obtain ⟨-, -, hW2⟩ := is.2.2.2.2.1 h9
              obtain ⟨c7, e7, v8, n8, sl8, SH8, FI8, FL8, FR8, hm, c9, e9, rfl, rfl⟩ := h
              cases e7
              cases e9
              obtain ⟨hq8, w8⟩ := s_wI (c := n) (k := 0) (x := (4 : Int32)) h176 ⟨hq7, w7⟩
              obtain ⟨gb, hm⟩ := hm
              obtain ⟨sl10, SH10, F10, L10, R10, rfl, e, qc, po⟩ := s_bl gb _ _ _ _ _ _ (t + 1) 0 [] hm hQ1 hq8 w8 (by decide) (by decide) rfl (by decide) (fun i hi => by omega)
              cases e
              have b8 : b_ct n SH FI FL FR (n + 1 + 1) SH8 FI8 FL8 FR8 := b_tr (b_wI (k := 0) (x := (4 : Int32)) b7 h176 (Nat.le_refl _)) qc
              have e8 : ∀ k, FI8 n k = h_up FI7 n 0 (4 : Int32) n k := fun k => qc.2.2.1 n k (by omega) (by omega)
              have e84 : (FI8 n 4).toInt = -1 := by rw [e8, h_up_ne (by decide)]; exact e74
              have e80 : (FI8 n 0).toInt = 4 := by rw [e8, h_up_eq]; decide
              have r85 : FR8 n 5 = none := by rw [qc.2.2.2.2.1 n 5 (by omega)]; exact r5
              have b9 := b_wR (k := 3) (x := some (n + 1)) b8 (Nat.le_refl n)
              rcases po with ⟨t2, c, p1, p2, p3, p4, p5, p6, p7⟩ | ⟨ft, p⟩
              · have k3 : K (t + 1) = 3 := by
                  refine Classical.byContradiction fun hn3 => ?_
                  have e := p1 66 (by decide)
                  rw [lp_bl, if_neg hn3] at e
                  have e2 := congrArg Prod.snd (Option.some.inj e)
                  dsimp only at e2
                  rw [← e2, List.length_nil] at p2
                  omega
                rw [Nat.zero_add] at p2 p5 p6 p7
                rw [List.nil_append] at p7
                have p1' := p1 1100 (by decide)
                have tlt : t < t2 := by omega
                refine ⟨_, _, _, _, _, _, rfl, rfl, by omega, b9, e84, by rw [h_up_ne (by decide)]; exact r85, Or.inl ⟨t2, 158 :: (c.length : Int) :: c, ⟨0, fun f hf => ?_⟩, tlt, p4, h176, Nat.le_refl _, by omega, fun F2 L2 R2 S2 ha => ?_⟩⟩
                · rw [if_pos hi]
                  unfold lp_pl
                  rw [if_neg hn5, if_neg hW0, if_neg (by omega), if_pos hW2, if_pos k3, p1']
                · have x0 : (F2 n 0).toInt = 4 := by rw [ha.1 n 0 (Nat.le_refl _) (by omega) (by omega)]; exact e80
                  have x2 : R2 n 3 = some (n + 1) := by rw [ha.2.2.1 n 3 (Nat.le_refl _) (by omega) (by omega), h_up_eq]
                  exact ⟨h176, Or.inr (Or.inr (Or.inr (Or.inl ⟨x0, n + 1, c, x2, by omega, by rw [ha.2.2.2 (n + 1) (by omega) (by omega)]; exact p5, p6, fun i hi2 => by rw [ha.1 (n + 1) i (by omega) (by omega) (by omega)]; exact p7 i hi2, rfl⟩)))⟩
              · refine ⟨_, _, _, _, _, _, rfl, rfl, by omega, b9, e84, by rw [h_up_ne (by decide)]; exact r85, Or.inr ⟨⟨0, fun f hf => ?_⟩, ft⟩⟩
                rw [if_pos hi]
                unfold lp_pl
                rw [if_neg hn5, if_neg hW0, if_neg (by omega), if_pos hW2]
                by_cases k3 : K (t + 1) = 3
                · rcases p with p | ⟨-, p⟩
                  · rw [if_pos k3, p 1100 (by decide)]
                  · exact absurd k3 p
                · rw [if_neg k3]
            · -- none
              have h9 : (fI 110 8).toInt ≠ 9 := h9
              obtain ⟨rfl, rfl⟩ := h
              have hW3 : W t = 3 := by
                rcases Classical.byContradiction hb with x | x | x | x | x
                · exact absurd x h7
                · exact absurd x h91
                · exact absurd x h8
                · exact absurd x h9
                · have := is.2.2.2.2.2 x; omega
              refine ⟨_, _, _, _, _, _, rfl, rfl, by omega, b7, e74, r5, Or.inl ⟨t + 1, [], ⟨0, fun f hf => ?_⟩, by omega, w7, h176, Nat.le_refl _, by omega, fun F2 L2 R2 S2 ha => ⟨h176, Or.inr (Or.inr (Or.inr (Or.inr ⟨?_, rfl⟩)))⟩⟩⟩
              · rw [if_pos hi]
                unfold lp_pl
                rw [if_neg hn5, if_neg hW0, if_neg (by omega), if_neg (by omega)]
              · rw [ha.1 n 0 (Nat.le_refl _) (by omega) (by omega), a7.1 n 0 (by omega), f0]
                decide
end PQ
