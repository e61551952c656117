/-! THE CLASS'S PARSER over expressions: a choice; the whole. -/
section LC
variable {K W : Nat → Int} {t t1 t2 t3 : Nat} {o : Int} {c1 c2 c3 : List Int}
theorem l_0n (h : l_ev K W 1 o t (some (t1, c1))) (hk : K t1 = 5 ∧ W t1 = 63) (ho : 12 ≤ o) : l_ev K W 0 o t none := by
  obtain ⟨a, h⟩ := h
  refine ⟨a + 1, fun f hf => ?_⟩
  cases f with
  | zero => omega
  | succ f =>
    rw [lc_ps, if_pos rfl, h f (by omega)]
    dsimp only
    rw [if_pos hk, if_pos ho]
theorem l_0a (h : l_ev K W 1 o t (some (t1, c1))) (hk : K t1 = 5 ∧ W t1 = 63) (ho : o < 12) (h2 : l_ev K W 0 (o + 1) (t1 + 1) none) : l_ev K W 0 o t none := by
  obtain ⟨a, h⟩ := h
  obtain ⟨b, h2⟩ := h2
  refine ⟨a + b + 1, fun f hf => ?_⟩
  cases f with
  | zero => omega
  | succ f =>
    rw [lc_ps, if_pos rfl, h f (by omega)]
    dsimp only
    rw [if_pos hk, if_neg (by omega), h2 f (by omega)]
theorem l_0b (h : l_ev K W 1 o t (some (t1, c1))) (hk : K t1 = 5 ∧ W t1 = 63) (ho : o < 12) (h2 : l_ev K W 0 (o + 1) (t1 + 1) (some (t2, c2))) (hk2 : ¬ (K t2 = 5 ∧ W t2 = 58)) : l_ev K W 0 o t none := by
  obtain ⟨a, h⟩ := h
  obtain ⟨b, h2⟩ := h2
  refine ⟨a + b + 1, fun f hf => ?_⟩
  cases f with
  | zero => omega
  | succ f =>
    rw [lc_ps, if_pos rfl, h f (by omega)]
    dsimp only
    rw [if_pos hk, if_neg (by omega), h2 f (by omega)]
    dsimp only
    rw [if_neg hk2]
theorem l_0c (h : l_ev K W 1 o t (some (t1, c1))) (hk : K t1 = 5 ∧ W t1 = 63) (ho : o < 12) (h2 : l_ev K W 0 (o + 1) (t1 + 1) (some (t2, c2))) (hk2 : K t2 = 5 ∧ W t2 = 58) (h3 : l_ev K W 0 (o + 1) (t2 + 1) none) : l_ev K W 0 o t none := by
  obtain ⟨a, h⟩ := h
  obtain ⟨b, h2⟩ := h2
  obtain ⟨c, h3⟩ := h3
  refine ⟨a + b + c + 1, fun f hf => ?_⟩
  cases f with
  | zero => omega
  | succ f =>
    rw [lc_ps, if_pos rfl, h f (by omega)]
    dsimp only
    rw [if_pos hk, if_neg (by omega), h2 f (by omega)]
    dsimp only
    rw [if_pos hk2, h3 f (by omega)]
theorem l_0d (h : l_ev K W 1 o t (some (t1, c1))) (hk : K t1 = 5 ∧ W t1 = 63) (ho : o < 12) (h2 : l_ev K W 0 (o + 1) (t1 + 1) (some (t2, c2))) (hk2 : K t2 = 5 ∧ W t2 = 58) (h3 : l_ev K W 0 (o + 1) (t2 + 1) (some (t3, c3))) : l_ev K W 0 o t (some (t3, c1 ++ lc_ch c2 c3)) := by
  obtain ⟨a, h⟩ := h
  obtain ⟨b, h2⟩ := h2
  obtain ⟨c, h3⟩ := h3
  refine ⟨a + b + c + 1, fun f hf => ?_⟩
  cases f with
  | zero => omega
  | succ f =>
    rw [lc_ps, if_pos rfl, h f (by omega)]
    dsimp only
    rw [if_pos hk, if_neg (by omega), h2 f (by omega)]
    dsimp only
    rw [if_pos hk2, h3 f (by omega)]
end LC
section PC
variable {K W : Nat → Int} {M : Nat} {n sl : Nat} {SH : Nat → Nat × Nat} {FI : Nat → Nat → Int32} {FL : Nat → Nat → Int64} {FR : Nat → Nat → Option Nat} {v : Option Nat} {s : hS} {t : Nat} {o : Int}
theorem p_ch {g : Nat} (ih : p_P K W M g) (hQ : h_S n SH) (hq : q_tk K W M FI FL) (hv : s_vw M FI FL t o) (h0 : 0 ≤ o) (h12 : o ≤ 12) {e : Nat} {a1 : Int32} (h : QX4 (g + 1) (e + 2) a1 n sl SH FI FL FR v s) : p_res K W M n 0 o t v s := by
  have h176 := hQ.1
  have z63 : ((63 : Int32)).toInt = 63 := by decide
  obtain ⟨v0, n0, sl0, SH0, FI0, FL0, FR0, hm, h⟩ := h
  obtain ⟨c, n9, sl9, SH9, F9, L9, R9, rfl, e, g1, g2, q1, q2, po⟩ := p_get (e := 1) ih hQ hq hv h0 h12 (by decide) (by decide) hm
  cases e
  have po : p_ok K W M n 1 o t _ _ _ _ c := po
  have hQ0 := q1.2.1
  have hq0 := q_b hq q1 h176
  have hn0 := q1.1
  rcases po with ⟨t1, ca, leva, ht1, hv1, nisa, pka, -⟩ | ⟨lev, ft⟩
  · rcases h with ⟨hs, h⟩ | ⟨hs, rfl, rfl⟩
    · rw [z63] at hs
      have kd := s_kd hq0 hv1
      rcases kd with ⟨ht, kd, -, kr, -, -⟩ | ⟨-, -, kd⟩
      · have ce := ck_e kr
        have hK : K t1 = 5 ∧ W t1 = 63 := by omega
        obtain ⟨v2, n2, sl2, SH2, FI2, FL2, FR2, hc, h⟩ := h
        obtain ⟨F2', e, a2, r2⟩ := s_raise hc hq0 hv1 h0
        cases e
        rcases h with ⟨hz, rfl, rfl⟩ | ⟨hz, h⟩
        · rcases r2 with ⟨-, w, -⟩ | ⟨ho, -, ft⟩
          · exfalso; omega
          · exact ⟨c, _, _, _, _, _, _, rfl, rfl, Or.inr ⟨l_0n leva hK ho, ft⟩⟩
        · rcases r2 with ⟨ho, -, w2⟩ | ⟨-, w, -⟩
          · have hq2 := q_a hq0 a2
            obtain ⟨v4, n4, sl4, SH4, FI4, FL4, FR4, k0, v5, n5, sl5, SH5, FI5, FL5, FR5, k1, v7, n7, sl7, SH7, FI7, FL7, FR7, hc7, v8, n8, sl8, SH8, FI8, FL8, FR8, hm8, v10, n10, sl10, SH10, FI10, FL10, FR10, hc10, v11, n11, sl11, SH11, FI11, FL11, FR11, hm11, rfl, rfl⟩ := h
            obtain ⟨sl', SH', F', L', R', e, q3, q4, q5, q6⟩ := b_nw hQ0 k0
            cases e
            obtain ⟨-, e⟩ := k1
            cases e
            obtain ⟨hq5, hv5⟩ := s_wL (c := n0) (k := 1) (x := (0 : Int64)) (by omega) (s_wI (c := n0) (k := 0) (x := (63 : Int32)) (by omega) (s_new (by omega) q3 q5 q6 hq2 w2))
            obtain ⟨F7', L7', e, a7, w7⟩ := s_take hc7 hq5 hv5 ht
            cases e
            have hq7 := q_a hq5 a7
            obtain ⟨c8, n9, sl9, SH9, F9, L9, R9, rfl, e, y1, y2, q8, q9, po⟩ := p_get (e := 2) (a1 := 0) ih q3.2.1 hq7 w7 (by omega) (by omega) (by decide) (by decide) hm8
            cases e
            have po : p_ok K W M (n0 + 1) 0 (o + 1) (t1 + 1) _ _ _ _ c8 := po
            have m8 := q8.1
            rcases po with ⟨t2, cb, levb, ht2, w8, nisb, pkb, -⟩ | ⟨lev, ft⟩
            · have hq8 := q_b hq7 q8 (by omega)
              obtain ⟨F10', L10', e, a10, r10⟩ := s_expect (w := 58) hc10 (by decide) (by decide) hq8 w8
              cases e
              rcases r10 with ⟨ht3, r, w10⟩ | ⟨r, ft⟩
              · have kr2 := (hq8.2.1 t2 ht3).2.1
                have ce2 := ck_e kr2
                have hK2 : K t2 = 5 ∧ W t2 = 58 := by omega
                have hq10 := q_a hq8 a10
                obtain ⟨c11, n12, sl12, SH12, F12, L12, R12, rfl, e, x1, x2, q11, q12, po⟩ := p_get (e := 2) (a1 := 0) ih q8.2.1 hq10 w10 (by omega) (by omega) (by decide) (by decide) hm11
                cases e
                have po : p_ok K W M n8 0 (o + 1) (t2 + 1) _ _ _ _ c11 := po
                have m11 := q11.1
                rcases po with ⟨t3, cc, levc, ht3', w11, nisc, pkc, -⟩ | ⟨lev, ft⟩
                · obtain ⟨fE, hfE⟩ : ∃ f, f = h_up FI11 110 4 ((FI11 110 4) - (1 : Int32)) := ⟨_, rfl⟩
                  obtain ⟨rE, hrE⟩ : ∃ f, f = h_up FR11 n0 5 (some c11) := ⟨_, rfl⟩
                  -- the first: cells n .. n0 - 1
                  have na : n_is fE FL11 rE n n0 c (p_H 1 o) ca := n_is_fr nisa ⟨fun q k z1 z2 _ _ => by rw [hfE, h_up_nc (by omega), q11.2.2.1 q k (by omega) (by omega), a10.1 q k (by omega), q8.2.2.1 q k (by omega) (by omega), a7.1 q k (by omega), h_up_nc (by omega), q3.2.2.1 q k (by omega) (by omega)]; exact a2.1 q k (by omega), fun q k z1 z2 _ => by rw [q11.2.2.2.1 q k (by omega) (by omega), a10.2 q k (by omega), q8.2.2.2.1 q k (by omega) (by omega), a7.2 q k (by omega), h_up_nc (by omega)]; exact q3.2.2.2.1 q k (by omega) (by omega), fun q k z1 z2 _ _ => by rw [hrE, h_up_nc (by omega), q11.2.2.2.2.1 q k (by omega), h_up_nc (by omega), q8.2.2.2.2.1 q k (by omega), h_up_nc (by omega)]; exact q3.2.2.2.2.1 q k (by omega)⟩
                  have nb : n_is fE FL11 rE (n0 + 1) n8 c8 (p_H 0 (o + 1)) cb := n_is_fr nisb ⟨fun q k z1 z2 _ _ => by rw [hfE, h_up_nc (by omega), q11.2.2.1 q k (by omega) (by omega)]; exact a10.1 q k (by omega), fun q k z1 z2 _ => by rw [q11.2.2.2.1 q k (by omega) (by omega)]; exact a10.2 q k (by omega), fun q k z1 z2 _ _ => by rw [hrE, h_up_nc (by omega), q11.2.2.2.2.1 q k (by omega), h_up_nc (by omega)]⟩
                  have nc : n_is fE FL11 rE n8 n11 c11 (p_H 0 (o + 1)) cc := n_is_fr nisc ⟨fun q k z1 z2 _ _ => by rw [hfE, h_up_nc (by omega)], fun q k z1 z2 _ => rfl, fun q k z1 z2 _ _ => by rw [hrE, h_up_nc (by omega)]⟩
                  have ek : (fE n0 0).toInt = 63 := by rw [hfE, h_up_nc (by omega), q11.2.2.1 n0 0 (by omega) (by omega), a10.1 n0 0 (by omega), q8.2.2.1 n0 0 (by omega) (by omega), a7.1 n0 0 (by omega), h_up_eq]; exact z63
                  have e3 : rE n0 3 = some c := by rw [hrE, h_up_ne (by decide), q11.2.2.2.2.1 n0 3 (by omega), h_up_ne (by decide), q8.2.2.2.2.1 n0 3 (by omega), h_up_eq]
                  have e4 : rE n0 4 = some c8 := by rw [hrE, h_up_ne (by decide), q11.2.2.2.2.1 n0 4 (by omega), h_up_eq]
                  have e5 : rE n0 5 = some c11 := by rw [hrE, h_up_eq]
                  have hH : p_H 0 (o + 1) ≤ p_H 1 o := by unfold p_H; omega
                  have nis := n_is_ch (lo := n) (hi := n11) (c := n0) h176 hn0 (by omega) ek e3 e4 e5 na (n_is_w nb (by omega) (Nat.le_refl _) (Nat.le_refl _) hH) (n_is_w nc (by omega) (Nat.le_refl _) (Nat.le_refl _) hH) ⟨Nat.le_refl _, by omega, by omega⟩ ⟨by omega, by omega, by omega⟩ ⟨by omega, by omega, by omega⟩
                  have wE := s_low w11 h0 h12
                  rw [← hfE] at wE
                  rw [← hfE, ← hrE]
                  exact ⟨n0, _, _, _, _, _, _, rfl, rfl, Or.inl ⟨t3, _, l_0d leva hK ho levb hK2 levc, by omega, wE, n_is_w nis h176 (Nat.le_refl _) (Nat.le_refl _) (by unfold p_H; omega), p_kd_f (by omega) (by omega) (by omega) (by omega), fun h => by omega⟩⟩
                · exact ⟨n0, _, _, _, _, _, _, rfl, rfl, Or.inr ⟨l_0c leva hK ho levb hK2 lev, ft_4 ft⟩⟩
              · have n58 : ¬ (K t2 = 5 ∧ W t2 = 58) := by
                  intro h58
                  rcases s_kd hq8 w8 with ⟨k1, -, -, kr2, -⟩ | ⟨-, k1, -⟩
                  · have ce2 := ck_e kr2
                    have := r k1
                    omega
                  · omega
                obtain ⟨c11, n12, sl12, SH12, F12, L12, R12, rfl, e, -, ft2⟩ := b_F g 2 0 _ _ _ _ _ _ _ _ (by decide) (by decide) q8.2.1 ft hm11
                cases e
                exact ⟨n0, _, _, _, _, _, _, rfl, rfl, Or.inr ⟨l_0b leva hK ho levb n58, ft_4 ft2⟩⟩
            · have e := s_expect_f hc10 ft.1
              cases e
              obtain ⟨c11, n12, sl12, SH12, F12, L12, R12, rfl, e, -, ft2⟩ := b_F g 2 0 _ _ _ _ _ _ _ _ (by decide) (by decide) q8.2.1 ft hm11
              cases e
              exact ⟨n0, _, _, _, _, _, _, rfl, rfl, Or.inr ⟨l_0a leva hK ho lev, ft_4 ft2⟩⟩
          · exfalso; omega
      · exfalso; omega
    · rw [z63] at hs
      refine ⟨c, _, _, _, _, _, _, rfl, rfl, Or.inl ⟨t1, ca, l_0 leva (fun t' c' e => ?_), ht1, hv1, n_is_w nisa h176 (Nat.le_refl _) (Nat.le_refl _) (by unfold p_H; omega), pka, fun h => by omega⟩⟩
      have e1 : t1 = t' := congrArg Prod.fst (Option.some.inj e)
      subst e1
      intro hK
      rcases s_kd hq0 hv1 with ⟨-, kd, -, kr, -⟩ | ⟨-, kK, -⟩
      · have ce := ck_e kr
        omega
      · omega
  · rcases h with ⟨hs, h⟩ | ⟨hs, rfl, rfl⟩
    · exfalso
      rw [ft.2, z63] at hs
      omega
    · exact ⟨c, _, _, _, _, _, _, rfl, rfl, Or.inr ⟨l_0 lev (fun _ _ e => by cases e), ft⟩⟩
/-- THE PARSER over expressions -/
theorem p_main : ∀ g, p_P K W M g := by
  intro g
  induction g with
  | zero => intro e a1 n sl SH FI FL FR v s t o _ _ _ _ _ _ _ h; exact h.elim
  | succ g ih =>
    intro e a1 n sl SH FI FL FR v s t o hQ hq hv h0 h12 ha0 ha7 h
    match e, h with
    | 0, h => exact p_un ih hQ hq hv h0 h12 h
    | 1, h => exact p_le ih hQ hq hv h0 h12 ha0 ha7 h
    | e + 2, h => exact p_ch ih hQ hq hv h0 h12 h
/-- readChoice -/
theorem s_choice (hQ : h_S n SH) (hq : q_tk K W M FI FL) (hv : s_vw M FI FL t o) (h0 : 0 ≤ o) (h12 : o ≤ 12) (h : RX4_readChoice_ n sl SH FI FL FR v s) : ∃ c n2 sl2 SH2 F2 L2 R2, v = some c ∧ s = (n2, sl2, SH2, F2, L2, R2) ∧ n ≤ c ∧ c < n2 ∧ b_ct n SH FI FL FR n2 SH2 F2 L2 R2 ∧ R2 c 6 = none ∧ p_ok K W M n 0 o t n2 F2 L2 R2 c := by
  obtain ⟨g, h⟩ := h
  exact p_get (e := 2) (a1 := 0) (p_main g) hQ hq hv h0 h12 (by decide) (by decide) h
theorem s_choice_f (hQ : h_S n SH) (hf : s_ft FI) (h : RX4_readChoice_ n sl SH FI FL FR v s) : ∃ c n2 sl2 SH2 F2 L2 R2, v = some c ∧ s = (n2, sl2, SH2, F2, L2, R2) ∧ b_ct n SH FI FL FR n2 SH2 F2 L2 R2 ∧ s_ft F2 := by
  obtain ⟨g, h⟩ := h
  obtain ⟨c, n2, sl2, SH2, F2, L2, R2, rfl, rfl, g1, g2, q1, q2⟩ := b_G g 2 0 n sl SH FI FL FR v s hQ h
  obtain ⟨c', n', sl', SH', F', L', R', e1, e2, -, ft⟩ := b_F g 2 0 n sl SH FI FL FR _ _ (by decide) (by decide) hQ hf h
  cases e2
  exact ⟨c, n2, sl2, SH2, F2, L2, R2, rfl, rfl, q1, ft⟩
end PC
