/-! place. -/
theorem e_patch {FI : Nat → Nat → Int32} {B1 B2 : List Int} {x : Int} {i : Nat} {y : Int32} (h : e_vw FI (B1 ++ x :: B2)) (hi : B1.length ≤ 4000 → i = B1.length) : e_vw (h_up FI 154 i y) (B1 ++ y.toInt :: B2) := by
  have hl : (B1 ++ y.toInt :: B2).length = (B1 ++ x :: B2).length := by simp
  refine ⟨by rw [h_up_nc (by decide), hl]; exact h.1, fun h1 j hj => ?_⟩
  rw [hl] at h1 hj
  have hL : B1.length ≤ 4000 := by
    rw [List.length_append] at h1
    omega
  have hi' := hi hL
  subst hi'
  by_cases hj2 : j = B1.length
  · subst hj2
    rw [h_up_eq]
    simp
  · rw [h_up_ne hj2, h.2 h1 j hj]
    simp only [List.getD_eq_getElem?_getD]
    rcases Nat.lt_or_ge j B1.length with h3 | h3
    · rw [List.getElem?_append_left h3, List.getElem?_append_left h3]
    · rw [List.getElem?_append_right h3, List.getElem?_append_right h3, show j - B1.length = (j - B1.length - 1) + 1 by omega, List.getElem?_cons_succ, List.getElem?_cons_succ]
section PQ
variable {K W : Nat → Int} {n sl : Nat} {SH : Nat → Nat × Nat} {FI : Nat → Nat → Int32} {FL : Nat → Nat → Int64} {FR : Nat → Nat → Option Nat} {t T f : Nat} {o : Int} {B : List Int} {s : hS}
theorem d_287 {l2 l3 : Int32} {m : Nat} {C : List Int} {v : Unit} (h : RX12_place_287 l2 l3 n sl SH FI FL FR v s) (hl2 : B.length ≤ 4000 → l2.toInt.toNat = B.length) (hl3 : l3.toInt = m) (hd : d_vw K W FI FL t o (B ++ 0 :: C)) : d_vw K W s.2.2.2.1 s.2.2.2.2.1 t o (B ++ (m : Int) :: C) := by
  rcases h with ⟨h1, h⟩ | ⟨h1, h⟩
  · obtain ⟨-, rfl⟩ := h
    refine ⟨hd.1, hd.2.1, hd.2.2.1, ?_⟩
    refine e_vw_ln hd.2.2.2 (by simp) ?_
    have e4 : ((4000 : Int32)).toInt = 4000 := by decide
    rw [e4, hd.2.2.2.1] at h1
    rcases Nat.lt_or_ge 4000 (B ++ 0 :: C).length with h2 | h2
    · exact h2
    · rw [i_lit (by omega)] at h1
      omega
  · obtain ⟨-, -, rfl⟩ := h
    have q := e_patch (y := l3) hd.2.2.2 hl2
    rw [hl3] at q
    show d_vw K W (h_up FI 154 l2.toInt.toNat l3) FL t o _
    exact ⟨⟨by rw [h_up_nc (by decide)]; exact hd.1.1, hd.1.2.1, by rw [h_up_nc (by decide)]; exact hd.1.2.2.1, hd.1.2.2.2⟩, by rw [h_up_nc (by decide)]; exact hd.2.1, by rw [h_up_nc (by decide)]; exact hd.2.2.1, q⟩
theorem d_bl (hg : tk_rg K W) (hT : K T = 0) (hT2 : T ≤ 1001) : ∀ (g : Nat) (l2 l3 : Int32) (n sl : Nat) (SH : Nat → Nat × Nat) (FI : Nat → Nat → Int32) (FL : Nat → Nat → Int64) (FR : Nat → Nat → Option Nat) (v : Unit) (s : hS) (f m t : Nat) (C : List Int), GX12_place_200 g l2 l3 n sl SH FI FL FR v s → (B.length ≤ 4000 → l2.toInt.toNat = B.length) → l3.toInt = m → m ≤ 64 → t ≤ T → T - t < f → C.length = m → d_vw K W FI FL t o (B ++ 0 :: C) → match lp_bl K W f m t with
    | none => (s.2.2.2.1 121 69).toInt ≠ 0
    | some (t1, c) => t ≤ t1 ∧ t1 ≤ T ∧ d_vw K W s.2.2.2.1 s.2.2.2.2.1 t1 o (B ++ ((m + c.length : Nat) : Int) :: (C ++ c)) := by
  intro g
  induction g with
  | zero => intro l2 l3 n sl SH FI FL FR v s f m t C h; exact h.elim
  | succ g ih =>
    intro l2 l3 n sl SH FI FL FR v s f m t C h hl2 hl3 hm ht hf hC hd
    have c3 : ((3 : Int32)).toInt = 3 := by decide
    have c255 : ((255 : Int64)).toInt = 255 := by decide
    have c64 : ((64 : Int32)).toInt = 64 := by decide
    have hK : (FI 149 (FI 121 68).toInt.toNat).toInt = K t := by rw [tk_i hd.1, tk_K hd.1]
    have hW : (FL 150 (FI 121 68).toInt.toNat).toInt = W t := by rw [tk_i hd.1, tk_W hd.1]
    cases f with
    | zero => omega
    | succ f =>
      have stop : K t ≠ 3 → RX12_place_287 l2 l3 n sl SH FI FL FR v s → match lp_bl K W (f + 1) m t with
          | none => (s.2.2.2.1 121 69).toInt ≠ 0
          | some (t1, c) => t ≤ t1 ∧ t1 ≤ T ∧ d_vw K W s.2.2.2.1 s.2.2.2.2.1 t1 o (B ++ ((m + c.length : Nat) : Int) :: (C ++ c)) := by
        intro h3 h
        rw [lp_bl, if_neg h3]
        have q := d_287 h hl2 hl3 hd
        refine ⟨Nat.le_refl _, ht, ?_⟩
        simpa using q
      rcases h with ⟨h1, h⟩ | ⟨h1, h⟩
      · obtain ⟨hp0, h⟩ := h
        rcases h with ⟨h2, h⟩ | ⟨h2, h⟩
        · rw [hK, c3] at h2
          have hr := (hg t).1 h2
          have ht1 := lt_T hT ht (by omega)
          rw [lp_bl, if_pos h2]
          obtain ⟨-, h⟩ := h
          rcases h with ⟨h3, h⟩ | ⟨h3, h⟩
          · rw [hW, c255] at h3
            rw [if_pos h3]
            obtain ⟨v3, n3, sl3, SH3, FI3, FL3, FR3, hc, -, v4, n4, sl4, SH4, FI4, FL4, FR4, he, h⟩ := h
            refine (kGX12_place_200 g _ _ _ _ _ _ _ _ _ _ h).2.2.2.2.2.2 ?_
            try dsimp only
            rw [h_up_x (by decide)]
            exact (kX12_emit he).2.2.2.2.2.2 (f_fault hc (by decide))
          · rw [hW, c255] at h3
            rw [if_neg h3]
            rcases h with ⟨h4, h⟩ | ⟨h4, h⟩
            · rw [hl3, c64] at h4
              rw [if_pos (by omega)]
              obtain ⟨v3, n3, sl3, SH3, FI3, FL3, FR3, hc, -, v4, n4, sl4, SH4, FI4, FL4, FR4, he, h⟩ := h
              refine (kGX12_place_200 g _ _ _ _ _ _ _ _ _ _ h).2.2.2.2.2.2 ?_
              try dsimp only
              rw [h_up_x (by decide)]
              exact (kX12_emit he).2.2.2.2.2.2 (f_fault hc (by decide))
            · rw [hl3, c64] at h4
              rw [if_neg (by omega)]
              obtain ⟨-, v4, n4, sl4, SH4, FI4, FL4, FR4, he, h⟩ := h
              have q1 := d_em (a := (n, sl, SH, FI, FL, FR)) (b := (n4, sl4, SH4, FI4, FL4, FR4)) hd (kX12_emit he) (em_emit (b := W t) he (by rw [l_i_m256, hW]; omega)) (by decide)
              have q2 := d_ti q1 (tk_n1 q1.1) (by omega)
              have e1 : (B ++ 0 :: C) ++ [W t] = B ++ 0 :: (C ++ [W t]) := by simp
              rw [e1] at q2
              have k := ih l2 (l3 + 1) n4 sl4 SH4 _ FL4 FR4 v s f (m + 1) (t + 1) (C ++ [W t]) h hl2 (by rw [i_add hl3 (by decide : ((1 : Int32)).toInt = 1) (by omega) (by omega)]; omega) (by omega) ht1 (by omega) (by rw [List.length_append, hC]; rfl) q2
              generalize lp_bl K W f (m + 1) (t + 1) = r at k
              match r, k with
              | none, k => exact k
              | some (t1, c), ⟨k1, k2, k3⟩ =>
                refine ⟨by omega, k2, ?_⟩
                have e2 : m + 1 + c.length = m + (W t :: c).length := by rw [List.length_cons]; omega
                have e3 : C ++ [W t] ++ c = C ++ W t :: c := by simp
                rw [e2, e3] at k3
                exact k3
        · rw [hK, c3] at h2
          exact stop h2 h
      · exact absurd hd.2.1 h1
theorem d_101 {v : Unit} (h : RX12_place_101 n sl SH FI FL FR v s) (hg : tk_rg K W) (hd : d_vw K W FI FL t o B) (h3 : K t = 3) (h31 : W t ≤ 31) (ht : t + 1 ≤ 2000) : d_vw K W s.2.2.2.1 s.2.2.2.2.1 (t + 1) o (B ++ [80 + W t]) := by
  have hr := (hg t).1 h3
  have hW : (FL 150 (FI 121 68).toInt.toNat).toInt = W t := by rw [tk_i hd.1, tk_W hd.1]
  rcases h with ⟨h1, h⟩ | ⟨h1, h⟩
  · obtain ⟨-, v1, n1, sl1, SH1, FI1, FL1, FR1, hc, h⟩ := h
    obtain ⟨-, rfl⟩ := h
    have q1 := d_em (a := (n, sl, SH, FI, FL, FR)) (b := (n1, sl1, SH1, FI1, FL1, FR1)) hd (kX12_emit hc) (em_emit (b := 80 + W t) hc (by
      rw [i_add (by decide : ((80 : Int32)).toInt = 80) (l_2i hW (by omega) (by omega)) (by omega) (by omega)]
      omega)) (by decide)
    exact d_ti q1 (tk_n1 q1.1) ht
  · exact absurd hd.2.1 h1
theorem d_place {v : Unit} (h : RX12_place n sl SH FI FL FR v s) (hS : h_S n SH) (hg : tk_rg K W) (hT : K T = 0) (hT2 : T ≤ 1001) (ht : t ≤ T) (hf : 12 * T + 20 < f) (hd : d_vw K W FI FL t o B) (ho : 0 ≤ o) (ho2 : o ≤ 12) (hi : lp_is (K t) (W t) = true) : match lp_pl K W f o t with
    | none => (s.2.2.2.1 121 69).toInt ≠ 0
    | some (t1, c) => t < t1 ∧ t1 ≤ T ∧ ((au_bn (K t1) (W t1) = 4 ∧ (s.2.2.2.1 121 69).toInt ≠ 0) ∨ d_vw K W s.2.2.2.1 s.2.2.2.2.1 t1 o (B ++ c)) := by
  have hi2 : (K t = 5 ∧ W t = 91) ∨ (K t = 2 ∧ (W t = 0 ∨ W t = 1 ∨ W t = 2 ∨ W t = 3)) := by simpa [lp_is] using hi
  have ht1 := lt_T hT ht (by omega)
  have hW : (FL 150 (FI 121 68).toInt.toNat).toInt = W t := by rw [tk_i hd.1, tk_W hd.1]
  have hK1 : (FI 149 ((FI 121 68) + ((1 : Int32))).toInt.toNat).toInt = K (t + 1) := by rw [tk_i1 hd.1, tk_K hd.1]
  have hW1 : (FL 150 ((FI 121 68) + ((1 : Int32))).toInt.toNat).toInt = W (t + 1) := by rw [tk_i1 hd.1, tk_W hd.1]
  have hd1 := d_ti hd (tk_n1 hd.1) (by omega)
  have c3 : ((3 : Int32)).toInt = 3 := by decide
  have c0 : ((0 : Int32)).toInt = 0 := by decide
  have c1 : ((1 : Int32)).toInt = 1 := by decide
  have c2 : ((2 : Int32)).toInt = 2 := by decide
  have c31 : ((31 : Int64)).toInt = 31 := by decide
  unfold lp_pl
  rcases h with ⟨h1, h⟩ | ⟨h1, h⟩
  · rw [tk_sign hd.1 (by decide : ((91 : Int32)).toInt = 91)] at h1
    have hk2 : K t = 2 ∧ (W t = 0 ∨ W t = 1 ∨ W t = 2 ∨ W t = 3) := by
      rcases hi2 with h | h
      · exact absurd h h1
      · exact h
    have hW32 := l_2i hW (by omega) (by omega)
    rw [if_neg h1]
    obtain ⟨-, h⟩ := h
    rcases h with ⟨h2, h⟩ | ⟨h2, h⟩
    · rw [hW32] at h2
      rw [if_pos h2]
      obtain ⟨-, h⟩ := h
      rcases h with ⟨h3, h⟩ | ⟨h3, h⟩
      · rw [hK1, c3] at h3
        have ht2 := lt_T hT ht1 (by omega)
        obtain ⟨-, h⟩ := h
        rcases h with ⟨h4, h⟩ | ⟨h4, h⟩
        · rw [hW1, c31] at h4
          rw [if_neg (by omega)]
          obtain ⟨v3, n3, sl3, SH3, FI3, FL3, FR3, hc, h⟩ := h
          exact (kX12_place_101 h).2.2.2.2.2.2 (f_fault hc (by decide))
        · rw [hW1, c31] at h4
          rw [if_pos ⟨h3, by omega⟩]
          exact ⟨by omega, ht2, Or.inr (d_101 h hg hd1 h3 (by omega) (by omega))⟩
      · rw [hK1, c3] at h3
        rw [if_neg (by omega)]
        obtain ⟨v3, n3, sl3, SH3, FI3, FL3, FR3, hc, h⟩ := h
        exact (kX12_place_101 h).2.2.2.2.2.2 (f_fault hc (by decide))
    · rw [hW32] at h2
      rw [if_neg h2]
      rcases h with ⟨h3, h⟩ | ⟨h3, h⟩
      · rw [hW32, c1] at h3
        rw [if_pos h3]
        obtain ⟨v3, n3, sl3, SH3, FI3, FL3, FR3, hc, v4, n4, sl4, SH4, FI4, FL4, FR4, he, h⟩ := h
        obtain ⟨-, rfl⟩ := h
        have q := d_chosen (f := f) hc hS hg hT ht1 (by omega) hd1 ho ho2
        generalize lc_ps K W f 0 o (t + 1) = r at q
        match r, q with
        | none, q => exact (kX12_emit he).2.2.2.2.2.2 q
        | some (t1, c), ⟨q1, q2, q3⟩ =>
          refine ⟨by omega, q2, ?_⟩
          rcases q3 with ⟨q3, q4⟩ | ⟨q3, q4⟩
          · exact Or.inl ⟨q3, (kX12_emit he).2.2.2.2.2.2 q4⟩
          · have q5 := d_em (a := (n3, sl3, SH3, FI3, FL3, FR3)) (b := (n4, sl4, SH4, FI4, FL4, FR4)) q4 (kX12_emit he) (em_emit (b := 159) he (by decide)) (by decide)
            rw [List.append_assoc] at q5
            exact Or.inr q5
      · rw [hW32, c1] at h3
        rw [if_neg h3]
        rcases h with ⟨h4, h⟩ | ⟨h4, h⟩
        · rw [hW32, c2] at h4
          rw [if_pos h4]
          obtain ⟨-, h⟩ := h
          rcases h with ⟨h5, h⟩ | ⟨h5, h⟩
          · rw [hK1, c3] at h5
            rw [if_pos h5]
            obtain ⟨v3, n3, sl3, SH3, FI3, FL3, FR3, hc, v4, n4, sl4, SH4, FI4, FL4, FR4, he, g, h⟩ := h
            have q1 := d_em (a := (n, sl, SH, _, FL, FR)) (b := (n3, sl3, SH3, FI3, FL3, FR3)) hd1 (kX12_emit hc) (em_emit (b := 158) hc (by decide)) (by decide)
            have q2 := d_em (a := (n3, sl3, SH3, FI3, FL3, FR3)) (b := (n4, sl4, SH4, FI4, FL4, FR4)) q1 (kX12_emit he) (em_emit (b := 0) he (by decide)) (by decide)
            have k := d_bl hg hT hT2 g (FI3 121 73) 0 n4 sl4 SH4 FI4 FL4 FR4 v s 1100 0 (t + 1) [] h (fun hl => by rw [show FI3 121 73 = _ from q1.2.2.2.1, i_lit (by omega)]; omega) (by decide) (by omega) ht1 (by omega) rfl q2
            generalize lp_bl K W 1100 0 (t + 1) = r at k
            match r, k with
            | none, k => exact k
            | some (t1, c), ⟨k1, k2, k3⟩ =>
              refine ⟨by omega, k2, Or.inr ?_⟩
              rw [List.append_assoc] at k3
              simpa using k3
          · rw [hK1, c3] at h5
            rw [if_neg h5]
            obtain ⟨v3, n3, sl3, SH3, FI3, FL3, FR3, hc, h⟩ := h
            exact (kX12_place_181 h).2.2.2.2.2.2 (f_fault hc (by decide))
        · rw [hW32, c2] at h4
          rw [if_neg h4]
          obtain ⟨-, rfl⟩ := h
          refine ⟨by omega, ht1, Or.inr ?_⟩
          rw [List.append_nil]
          exact hd1
  · rw [tk_sign hd.1 (by decide : ((91 : Int32)).toInt = 91)] at h1
    have h1' : K t = 5 ∧ W t = 91 := Classical.byContradiction (fun hn => h1 hn)
    rw [if_pos h1']
    obtain ⟨v3, n3, sl3, SH3, FI3, FL3, FR3, hc, v4, n4, sl4, SH4, FI4, FL4, FR4, he, v5, n5, sl5, SH5, FI5, FL5, FR5, hn, h⟩ := h
    obtain ⟨-, rfl⟩ := h
    have kc := kX12_opens hc
    have ke := kX12_chosen he
    have kn := kX12_need hn
    have bad : (FI4 121 69).toInt ≠ 0 → ((h_up FI5 121 71 ((FI5 121 71) - ((1 : Int32)))) 121 69).toInt ≠ 0 := by
      intro h
      rw [h_up_x (by decide)]
      exact kn.2.2.2.2.2.2 h
    rcases d_opens hc hd (by omega) ho ho2 with ⟨g1, g2⟩ | ⟨g1, g2⟩
    · rw [if_pos g1]
      exact bad (ke.2.2.2.2.2.2 g2)
    · rw [if_neg g1]
      have hS3 : h_S n3 SH3 := by rw [show n3 = n from kc.1, show SH3 = SH from kc.2.2.1]; exact hS
      have q := d_chosen (f := f) he hS3 hg hT ht1 (by omega) g2 (by omega) (by omega)
      generalize lc_ps K W f 0 (o + 1) (t + 1) = r at q
      match r, q with
      | none, q => exact bad q
      | some (t1, c), ⟨q1, q2, q3⟩ =>
        dsimp only
        rcases q3 with ⟨q3, q4⟩ | ⟨q3, q4⟩
        · rw [if_neg (by rintro ⟨e1, e2⟩; rw [e1, e2] at q3; exact absurd q3 (by decide))]
          exact bad q4
        · rcases d_need hn (by decide : ((93 : Int32)).toInt = 93) q4 (by omega) with ⟨g3, g4, g5⟩ | ⟨g3, g4⟩
          · rw [if_pos ⟨g3, g4⟩]
            have ht3 := lt_T hT q2 (by omega)
            refine ⟨by omega, ht3, Or.inr ?_⟩
            have g6 := d_op (x := FI5 121 71 - 1) (o1 := o) g5 (by rw [i_sub g5.2.2.1 (by decide : ((1 : Int32)).toInt = 1) (by omega) (by omega)]; omega)
            exact g6
          · rw [if_neg g3]
            try dsimp only
            rw [h_up_x (by decide)]
            exact g4
end PQ
