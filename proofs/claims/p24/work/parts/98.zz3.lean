/-! THE CLASS'S PARSER: a declaration read. -/
def l_st (K W : Nat → Int) (t : Nat) (V : List lp_V) (r : Option (Nat × List lp_V)) : Prop := ∃ F0, ∀ f, F0 ≤ f → lp_st K W f t V = r
section SD
variable {K W : Nat → Int} {M : Nat} {X : Nat → Int} {N : Nat} {n sl : Nat} {SH : Nat → Nat × Nat} {FI : Nat → Nat → Int32} {FL : Nat → Nat → Int64} {FR : Nat → Nat → Option Nat} {s : hS} {t : Nat} {V : List lp_V}
theorem l_st_n (h : ¬ (K t = 1 ∧ (∀ v, v ∈ V → v.1 ≠ W t) ∧ V.length < 12 ∧ K (t + 1) = 5 ∧ W (t + 1) = 61)) : l_st K W t V none := ⟨0, fun f _ => by unfold lp_st; rw [if_neg h]⟩
theorem s_w3 {x : Int32} {o : Int} (h : q_tk K W M FI FL ∧ s_vw M FI FL t o) : q_tk K W M (h_up FI 110 3 x) FL ∧ s_vw M (h_up FI 110 3 x) FL t o := by
  have e1 : h_up FI 110 3 x 111 = FI 111 := h_up_nc (by decide)
  have e2 : h_up FI 110 3 x 112 = FI 112 := h_up_nc (by decide)
  obtain ⟨h, v1, v2, v3, v4, v5, v6⟩ := h
  refine ⟨q_fr h ⟨e2, by rw [e1], rfl⟩, ?_, ?_, v3, ?_, v5, ?_⟩
  · rw [h_up_ne (by decide)]; exact v1
  · rw [h_up_ne (by decide)]; exact v2
  · rw [h_up_ne (by decide), e2]; exact v4
  · rw [h_up_ne (by decide)]; exact v6
/-- the end of a name that is none -/
theorem s_take6 {u u2 : Unit} {n1 sl1 : Nat} {SH1 : Nat → Nat × Nat} {F1 : Nat → Nat → Int32} {L1 : Nat → Nat → Int64} {R1 : Nat → Nat → Option Nat} (h0 : (FI 110 5).toInt = 0) (h7 : (FI 110 7).toInt = M) (hM : M ≤ 1000) (hc : ((M + 2 : Nat) : Int) ≤ (FI 111 4).toInt) (h61 : (FI 112 (M + 1)).toInt ≠ 61) (h : RX4_take n sl SH FI FL FR u (n1, sl1, SH1, F1, L1, R1)) (h2 : RX4_expect (61 : Int32) n1 sl1 SH1 F1 L1 R1 u2 s) : ∃ F2 L2, s = (n, sl, SH, F2, L2, FR) ∧ a_fr FI F2 FL L2 ∧ s_ft F2 := by
  have e1 : ((FI 110 7) + (1 : Int32)).toInt = ((M + 1 : Nat) : Int) := by rw [i_add h7 (by decide : ((1 : Int32)).toInt = 1) (by omega) (by omega)]; omega
  have en : ((FI 110 7) + (1 : Int32)).toInt.toNat = M + 1 := by omega
  rcases h with ⟨-, h⟩ | ⟨hn, -⟩
  · rcases h with ⟨-, -, -, -, e⟩ | ⟨hn, -⟩
    · rw [en] at e
      cases e
      have ha : a_fr FI (h_up (h_up FI 110 7 ((FI 110 7) + (1 : Int32))) 110 8 (FI 112 (M + 1))) FL (h_up FL 110 9 (FL 113 (M + 1))) := ⟨fun c k hck => by rw [h_up_x (fun h => hck ⟨h.1, by omega, by omega⟩), h_up_x (fun h => hck ⟨h.1, by omega, by omega⟩)], fun c k hck => h_up_x hck⟩
      rcases h2 with ⟨hk, -⟩ | ⟨-, h2⟩
      · exfalso
        rw [h_up_eq, show ((61 : Int32)).toInt = 61 by decide] at hk
        exact h61 hk
      · obtain ⟨v2, n2, sl2, SH2, FI2, FL2, FR2, hr, -, rfl⟩ := h2
        obtain ⟨F2, e, a2, ft⟩ := r_refuse hr (by decide) (by rw [h_up_x (by decide), h_up_x (by decide)]; exact h0) (by rw [h_up_x (by decide), h_up_eq, e1]; omega) (by rw [h_up_x (by decide), h_up_eq, h_up_nc (by decide), h_up_nc (by decide), e1]; omega)
        exact ⟨_, _, e, a_t ha a2, ft⟩
    · exfalso
      rw [e1] at hn
      omega
  · exact absurd h0 hn
theorem s_decl {lo vc : Nat} {u : Unit} (hlo : 176 ≤ lo) (hvc : lo ≤ vc) (hQ : h_S n SH) (hq : q_tk K W M FI FL) (hm : q_nm K W M X N FI FR) (hv : s_vw M FI FL t 0) (hd : d_st FI FL FR SH n vc V) (h : RX4_readDeclaration n sl SH FI FL FR u s) : ∃ n2 sl2 SH2 F2 L2 R2, s = (n2, sl2, SH2, F2, L2, R2) ∧ n ≤ n2 ∧ b_cd lo SH FI FL FR n2 SH2 F2 L2 R2 ∧ ((∃ t2 V2, l_st K W t V (some (t2, V2)) ∧ t < t2 ∧ s_vw M F2 L2 t2 0 ∧ d_st F2 L2 R2 SH2 n2 vc V2) ∨ (l_st K W t V none ∧ s_ft F2)) := by
  have h176 := hQ.1
  have hvn := hd.2.2.1
  have z4 : ((4 : Int32)).toInt = 4 := by decide
  obtain ⟨v0, n0, sl0, SH0, FI0, FL0, FR0, hl, h⟩ := h
  obtain ⟨sl', SH', F', L', R', rfl, e, w, nmk⟩ := y_letters hQ hm hv.2.1 hl
  cases e
  have b0 := y_ct hQ w.1 w.2.1 w.2.2.1 w.2.2.2
  have hQ0 := b0.2.1
  obtain ⟨hq0, hv0⟩ := s_new h176 b0 (w.2.1 110 (by omega)) (w.2.2.1 110 (by omega)) hq hv
  have hd0 := d_st_b hd b0 (Nat.le_refl n)
  have bd0 : b_cd lo SH FI FL FR (n + 1) SH0 FI0 FL0 FR0 := b_cd_of b0 (by omega)
  have kd := s_kd hq0 hv0
  rcases h with ⟨h4, h⟩ | ⟨h4, h⟩
  · rw [z4] at h4
    obtain ⟨v2, n2, sl2, SH2, FI2, FL2, FR2, hk, h⟩ := h
    have hk0 := hk
    have e : (n2, sl2, SH2, FI2, FL2, FR2) = (n + 1, sl0, SH0, FI0, FL0, FR0) := by
      obtain ⟨g, hk⟩ := hk
      exact y_known0_G g _ _ _ hk
    cases e
    -- whether the name is known
    have kn : t < M → K t = 1 ∧ nm_ok FI0 SH0 n (W t) ∧ (v2.toInt = 0 ↔ ∀ x, x ∈ V → x.1 ≠ W t) := by
      intro ht
      have hK : K t = 1 := by
        rcases kd with ⟨-, kd, -, kr, -⟩ | ⟨e, -⟩
        · have ce := ck_e kr
          omega
        · omega
      have hnm := nmk ht hK (by have := s_cnt hq; omega)
      exact ⟨hK, hnm, (y_known hd0.1 hd0.2.2.2.1 hd0.2.2.2.2.1 hd0.2.2.2.2.2.1 hnm (d_ns_of hd0) hk0).2⟩
    have hMn : ¬ t < M → t = M ∧ K t ≠ 1 ∧ ((M + 2 : Nat) : Int) ≤ (FI0 111 4).toInt ∧ (FI0 112 (M + 1)).toInt ≠ 61 := by
      intro ht
      have eM : t = M := by have := hv.2.2.1; omega
      subst eM
      have hk4 : (FI0 112 t).toInt = 4 := by rw [← hv0.2.2.2.1]; exact h4
      rcases hq0.2.2 with ⟨-, y, -⟩ | ⟨y1, ⟨y2, -⟩ | ⟨y2, y3, y4⟩⟩
      · omega
      · omega
      · exact ⟨rfl, by omega, y3, y4⟩
    rcases h with ⟨hz, h⟩ | ⟨hz, h⟩
    · obtain ⟨c5, e5, h⟩ := h
      rw [hd0.1] at e5
      cases e5
      have ez : (Int32.ofNat (SH0 vc).2).toInt = 12 := by rw [hd0.2.2.2.1]; decide
      rw [ez, hd0.2.2.2.2.1] at h
      rcases h with ⟨hlt, h⟩ | ⟨hlt, h⟩
      · have hlt : V.length < 12 := by omega
        obtain ⟨v6, n6, sl6, SH6, FI6, FL6, FR6, k0, -, v7, n7, sl7, SH7, FI7, FL7, FR7, k1, c9, e9, -, v10, n10, sl10, SH10, FI10, FL10, FR10, hk10, v11, n11, sl11, SH11, FI11, FL11, FR11, hx11, h⟩ := h
        obtain ⟨rfl, b7, f110, l110, r0, r2, r3, r4, r6, f5⟩ := d_new hQ0 k0 k1
        have h : s_bdP (n + 1) n11 sl11 SH11 FI11 FL11 FR11 u s := h
        have e72 : FR7 110 2 = some vc := by rw [b7.2.2.2.2.1 110 2 (by omega)]; exact hd0.1
        rw [e72] at e9
        cases e9
        have e73 : (FI7 110 3).toInt = (V.length : Int) := by rw [f110]; exact hd0.2.2.2.2.1
        have em : (FI7 110 3).toInt.toNat = V.length := by omega
        rw [em] at hk10
        have eV : ((FI7 110 3) + (1 : Int32)).toInt = ((V.length + 1 : Nat) : Int) := by rw [i_add e73 (by decide : ((1 : Int32)).toInt = 1) (by omega) (by omega)]; omega
        obtain ⟨fE, hfE⟩ : ∃ f, f = h_up FI7 110 3 ((FI7 110 3) + (1 : Int32)) := ⟨_, rfl⟩
        obtain ⟨rE, hrE⟩ : ∃ f, f = h_up FR7 vc V.length (some (n + 1)) := ⟨_, rfl⟩
        obtain ⟨hq8, hv8⟩ := s_w3 (x := (FI7 110 3) + (1 : Int32)) (s_new (by omega) b7 f110 l110 hq0 hv0)
        have bd7 := b_cd_3 (x := (FI7 110 3) + (1 : Int32)) (k := V.length) (r := some (n + 1)) (b_cd_t bd0 (b_cd_of b7 (by omega : lo ≤ n + 1))) hvc
        rw [← hfE] at hk10 hq8 hv8 bd7
        rw [← hrE] at hk10 bd7
        have rx : ∀ k, rE (n + 1) k = FR7 (n + 1) k := fun k => by rw [hrE, h_up_nc (by omega)]
        by_cases ht : t < M
        · obtain ⟨hK, hnm, kni⟩ := kn ht
          obtain ⟨F10, L10, e, a10, w10⟩ := s_take hk10 hq8 hv8 ht
          cases e
          have hq10 := q_a hq8 a10
          obtain ⟨F11, L11, e, a11, r11⟩ := s_expect (w := 61) hx11 (by decide) (by decide) hq10 w10
          cases e
          have ha := a_t a10 a11
          have bd11 : b_cd lo SH FI FL FR (n + 1 + 5) SH7 FI11 FL11 _ := b_cd_t bd7 (b_cd_of (b_a b7.2.1 ha (fun h => absurd hv8.1 h)) (by omega))
          rcases r11 with ⟨ht11, r11, w11⟩ | ⟨r11, ft⟩
          · have hK1 : K (t + 1) = 5 ∧ W (t + 1) = 61 := by
              have ce := ck_e (hq10.2.1 (t + 1) ht11).2.1
              omega
            have hq11 := q_a hq10 a11
            have f5' : (FI11 (n + 1) 5).toInt = 0 := by rw [ha.1 (n + 1) 5 (by omega), hfE, h_up_nc (by omega), f5]; decide
            obtain ⟨n12, sl12, SH12, F12, L12, R12, rfl, nn, b12, r12, res⟩ := s_body (by omega) b7.2.1 (Nat.le_refl _) hq11 w11 (by rw [rx]; exact r2) (by rw [rx]; exact r3) (by rw [rx]; exact r4) f5' h
            have cond : K t = 1 ∧ (∀ v, v ∈ V → v.1 ≠ W t) ∧ V.length < 12 ∧ K (t + 1) = 5 ∧ W (t + 1) = 61 := ⟨hK, kni.mp hz, hlt, hK1.1, hK1.2⟩
            refine ⟨_, _, _, _, _, _, rfl, by omega, b_cd_t bd11 (b_cd_of b12 (by omega)), ?_⟩
            rcases res with ⟨t1, m, c, b, ⟨a, lev⟩, k1, k2, ht1, w12, vi⟩ | ⟨lev, ft⟩
            · refine Or.inl ⟨t1 + 1, V ++ [(W t, t + 2, m, c, b)], ⟨a, fun f hf => ?_⟩, by omega, w12, ?_⟩
              · unfold lp_st
                rw [if_pos cond, lev f hf]
                dsimp only
                rw [if_pos ⟨k1, k2⟩]
              · -- what lies below the new variable
                have g0 : ∀ q k, vc < q → q < n + 1 → F12 q k = FI0 q k := fun q k y1 y2 => by rw [b12.2.2.1 q k (by omega) (by omega), ha.1 q k (by omega), hfE, h_up_nc (by omega), b7.2.2.1 q k (by omega) (by omega)]
                have g1 : ∀ q k, vc < q → q < n + 1 → L12 q k = FL0 q k := fun q k y1 y2 => by rw [b12.2.2.2.1 q k (by omega) (by omega), ha.2 q k (by omega), b7.2.2.2.1 q k (by omega) (by omega)]
                have g2 : ∀ q k, vc < q → q < n + 1 → R12 q k = FR0 q k := fun q k y1 y2 => by rw [b12.2.2.2.2.1 q k (by omega), hrE, h_up_nc (by omega), b7.2.2.2.2.1 q k (by omega)]
                have g3 : ∀ q, q < n + 1 → SH12 q = SH0 q := fun q y2 => by rw [b12.2.2.2.2.2.2 q (by omega), b7.2.2.2.2.2.2 q (by omega)]
                obtain ⟨xs, ns, hxs⟩ := hd0.2.2.2.2.2.2
                refine ⟨by rw [b12.2.2.2.2.1 110 2 (by omega), hrE, h_up_nc (by omega)]; exact e72, hd0.2.1, by omega, by rw [g3 vc (by omega)]; exact hd0.2.2.2.1, ?_, by rw [List.length_append]; show V.length + 1 ≤ 12; omega, fun i => if i < V.length then xs i else n + 1, fun i => if i < V.length then ns i else n12, fun i v hv' => ?_⟩
                · rw [b12.2.2.1 110 3 (by omega) (by omega), ha.1 110 3 (by omega), hfE, h_up_eq, eV, List.length_append]
                  rfl
                · by_cases hi : i < V.length
                  · rw [List.getElem?_append_left hi] at hv'
                    obtain ⟨y1, y2, y3, y4⟩ := hxs i v hv'
                    have y5 := y4.1
                    dsimp only
                    rw [if_pos hi, if_pos hi]
                    exact ⟨by rw [b12.2.2.2.2.1 vc i (by omega), hrE, h_up_ne (by omega), b7.2.2.2.2.1 vc i (by omega)]; exact y1, by omega, fun j hj => by rw [if_pos (by omega)]; exact y3 j hj, d_va_fr y4 (fun q k z1 z2 => g0 q k z1 (by omega)) (fun q k z1 z2 => g1 q k z1 (by omega)) (fun q k z1 z2 _ => g2 q k (by omega) (by omega)) (fun q z1 z2 => g3 q (by omega))⟩
                  · rw [List.getElem?_append_right (by omega)] at hv'
                    have ei : i = V.length := by
                      have := (List.getElem?_eq_some_iff.mp hv').1
                      rw [List.length_singleton] at this
                      omega
                    subst ei
                    rw [Nat.sub_self] at hv'
                    have hv' : some (W t, t + 2, m, c, b) = some v := hv'
                    cases hv'
                    dsimp only
                    rw [if_neg (Nat.lt_irrefl _), if_neg (Nat.lt_irrefl _)]
                    refine ⟨by rw [b12.2.2.2.2.1 vc V.length (by omega), hrE, h_up_eq], Nat.le_refl _, fun j hj => ?_, by omega, by omega, by rw [r12, rx]; exact r2, by rw [r12, rx]; exact r3, by rw [r12, rx]; exact r4, ⟨n, by rw [r12, rx]; exact r0, hvn, by omega, nm_fr hnm (by funext k; exact g0 n k hvn (by omega)) (g3 n (by omega))⟩, vi⟩
                    rw [if_pos hj]
                    exact (hxs j V[j] (List.getElem?_eq_getElem hj)).2.1
            · refine Or.inr ⟨?_, ft⟩
              rcases lev with ⟨a, lev⟩ | ⟨t1, m, c, b, ⟨a, lev⟩, kx⟩
              · exact ⟨a, fun f hf => by unfold lp_st; rw [if_pos cond, lev f hf]⟩
              · refine ⟨a, fun f hf => ?_⟩
                unfold lp_st
                rw [if_pos cond, lev f hf]
                dsimp only
                rw [if_neg kx]
          · obtain ⟨n12, sl12, SH12, F12, L12, R12, rfl, nn, b12, ft2⟩ := s_body_f b7.2.1 (Nat.le_refl _) ft (by rw [rx]; exact r4) h
            refine ⟨_, _, _, _, _, _, rfl, by omega, b_cd_t bd11 (b_cd_of b12 (by omega)), Or.inr ⟨l_st_n (fun hh => ?_), ft2⟩⟩
            rcases s_kd hq10 w10 with ⟨k1, -, -, kr, -⟩ | ⟨-, k1, -⟩
            · have ce := ck_e kr
              have := r11 k1
              have := hh.2.2.2
              omega
            · have := hh.2.2.2
              omega
        · obtain ⟨eM, hK, hc, h61⟩ := hMn ht
          subst eM
          have e112 : fE 112 = FI0 112 := by funext k; rw [hfE, h_up_nc (by decide)]; exact b7.2.2.1 112 k (by omega) (by omega)
          have e111 : fE 111 4 = FI0 111 4 := by rw [hfE, h_up_nc (by decide)]; exact b7.2.2.1 111 4 (by omega) (by omega)
          obtain ⟨F11, L11, e, ha, ft⟩ := s_take6 hv8.1 hv8.2.1 hq.1 (by rw [e111]; exact hc) (by rw [e112]; exact h61) hk10 hx11
          cases e
          have bd11 : b_cd lo SH FI FL FR (n + 1 + 5) SH7 FI11 FL11 _ := b_cd_t bd7 (b_cd_of (b_a b7.2.1 ha (fun _ => ft.1)) (by omega))
          obtain ⟨n12, sl12, SH12, F12, L12, R12, rfl, nn, b12, ft2⟩ := s_body_f b7.2.1 (Nat.le_refl _) ft (by rw [rx]; exact r4) h
          exact ⟨_, _, _, _, _, _, rfl, by omega, b_cd_t bd11 (b_cd_of b12 (by omega)), Or.inr ⟨l_st_n (fun hh => hK hh.1), ft2⟩⟩
      · obtain ⟨v18, n18, sl18, SH18, FI18, FL18, FR18, hr, -, rfl⟩ := h
        obtain ⟨F3, e, a3, ft⟩ := s_refuse hr (by decide) hq0 hv0
        cases e
        refine ⟨_, _, _, _, _, _, rfl, by omega, b_cd_t bd0 (b_cd_of (b_a hQ0 a3 (fun _ => ft.1)) (by omega)), Or.inr ⟨l_st_n (fun hh => ?_), ft⟩⟩
        have := hh.2.2.1
        omega
    · obtain ⟨v18, n18, sl18, SH18, FI18, FL18, FR18, hr, -, rfl⟩ := h
      obtain ⟨F3, e, a3, ft⟩ := s_refuse hr (by decide) hq0 hv0
      cases e
      refine ⟨_, _, _, _, _, _, rfl, by omega, b_cd_t bd0 (b_cd_of (b_a hQ0 a3 (fun _ => ft.1)) (by omega)), Or.inr ⟨l_st_n (fun hh => ?_), ft⟩⟩
      by_cases ht : t < M
      · exact hz ((kn ht).2.2.mpr hh.2.1)
      · exact (hMn ht).2.1 hh.1
  · rw [z4] at h4
    obtain ⟨v18, n18, sl18, SH18, FI18, FL18, FR18, hr, -, rfl⟩ := h
    obtain ⟨F3, e, a3, ft⟩ := s_refuse hr (by decide) hq0 hv0
    cases e
    refine ⟨_, _, _, _, _, _, rfl, by omega, b_cd_t bd0 (b_cd_of (b_a hQ0 a3 (fun _ => ft.1)) (by omega)), Or.inr ⟨l_st_n (fun hh => ?_), ft⟩⟩
    rcases kd with ⟨-, kd, -, kr, -⟩ | ⟨-, kK, -⟩
    · have ce := ck_e kr
      have := hh.1
      omega
    · have := hh.1
      omega
end SD
