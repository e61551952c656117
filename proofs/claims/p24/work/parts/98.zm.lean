/-! THE CLASS'S PARSER over expressions: the heap's side; what stands alone. -/
def p_lv (e : Nat) (a1 : Int32) : Nat := match e with
  | 0 => 8
  | 1 => a1.toInt.toNat + 1
  | _ => 0
def p_P (K W : Nat → Int) (M g : Nat) : Prop := ∀ (e : Nat) (a1 : Int32) (n sl : Nat) (SH : Nat → Nat × Nat) (FI : Nat → Nat → Int32) (FL : Nat → Nat → Int64) (FR : Nat → Nat → Option Nat) (v : Option Nat) (s : hS) (t : Nat) (o : Int), h_S n SH → q_tk K W M FI FL → s_vw M FI FL t o → 0 ≤ o → o ≤ 12 → 0 ≤ a1.toInt → a1.toInt ≤ 7 → QX4 g e a1 n sl SH FI FL FR v s → p_res K W M n (p_lv e a1) o t v s
section PL
variable {K W : Nat → Int} {M : Nat} {n sl : Nat} {SH : Nat → Nat × Nat} {FI : Nat → Nat → Int32} {FL : Nat → Nat → Int64} {FR : Nat → Nat → Option Nat} {v : Option Nat} {s : hS} {t : Nat} {o : Int} {n2 : Nat} {SH2 : Nat → Nat × Nat} {F2 : Nat → Nat → Int32} {L2 : Nat → Nat → Int64} {R2 : Nat → Nat → Option Nat}
theorem q_b (hq : q_tk K W M FI FL) (h : b_ct n SH FI FL FR n2 SH2 F2 L2 R2) (h0 : 176 ≤ n) : q_tk K W M F2 L2 :=
  q_fr hq ⟨by funext k; exact h.2.2.1 112 k (by omega) (by omega), h.2.2.1 111 4 (by omega) (by omega), by funext k; exact h.2.2.2.1 113 k (by omega) (by omega)⟩
theorem s_new (h0 : 176 ≤ n) (h : b_ct n SH FI FL FR n2 SH2 F2 L2 R2) (e1 : F2 110 = FI 110) (e2 : L2 110 = FL 110) (hq : q_tk K W M FI FL) (hv : s_vw M FI FL t o) : q_tk K W M F2 L2 ∧ s_vw M F2 L2 t o := by
  refine ⟨q_b hq h h0, ?_⟩
  have e3 : F2 112 = FI 112 := by funext k; exact h.2.2.1 112 k (by omega) (by omega)
  have e4 : L2 113 = FL 113 := by funext k; exact h.2.2.2.1 113 k (by omega) (by omega)
  unfold s_vw
  rw [e1, e2, e3, e4]
  exact hv
theorem s_wI {c k : Nat} {x : Int32} (hc : 176 ≤ c) (h : q_tk K W M FI FL ∧ s_vw M FI FL t o) : q_tk K W M (h_up FI c k x) FL ∧ s_vw M (h_up FI c k x) FL t o := by
  have e0 : h_up FI c k x 110 = FI 110 := h_up_nc (by omega)
  have e1 : h_up FI c k x 111 = FI 111 := h_up_nc (by omega)
  have e2 : h_up FI c k x 112 = FI 112 := h_up_nc (by omega)
  refine ⟨q_fr h.1 ⟨e2, by rw [e1], rfl⟩, ?_⟩
  have h2 := h.2
  unfold s_vw at h2 ⊢
  rw [e0, e2]
  exact h2
theorem s_wL {c k : Nat} {x : Int64} (hc : 176 ≤ c) (h : q_tk K W M FI FL ∧ s_vw M FI FL t o) : q_tk K W M FI (h_up FL c k x) ∧ s_vw M FI (h_up FL c k x) t o := by
  have e0 : h_up FL c k x 110 = FL 110 := h_up_nc (by omega)
  have e2 : h_up FL c k x 113 = FL 113 := h_up_nc (by omega)
  refine ⟨q_fr h.1 ⟨rfl, rfl, e2⟩, ?_⟩
  have h2 := h.2
  unfold s_vw at h2 ⊢
  rw [e0, e2]
  exact h2
theorem s_low (hv : s_vw M FI FL t (o + 1)) (h0 : 0 ≤ o) (h12 : o ≤ 12) : s_vw M (h_up FI 110 4 ((FI 110 4) - (1 : Int32))) FL t o := by
  obtain ⟨v1, v2, v3, v4, v5, v6⟩ := hv
  refine ⟨?_, ?_, v3, ?_, v5, ?_⟩
  · rw [h_up_x (by decide)]; exact v1
  · rw [h_up_x (by decide)]; exact v2
  · rw [h_up_x (by decide), h_up_nc (by decide)]; exact v4
  · rw [h_up_eq, i_sub v6 (by decide : ((1 : Int32)).toInt = 1) (by omega) (by omega)]
    omega
theorem ft_4 {x : Int32} (h : s_ft FI) : s_ft (h_up FI 110 4 x) := ⟨by rw [h_up_x (by decide)]; exact h.1, by rw [h_up_x (by decide)]; exact h.2⟩
theorem ft_c {c k : Nat} {x : Int32} (hc : 176 ≤ c) (h : s_ft FI) : s_ft (h_up FI c k x) := by
  have e0 : h_up FI c k x 110 = FI 110 := h_up_nc (by omega)
  unfold s_ft
  rw [e0]
  exact h
/-- a fault stays -/
theorem b_F : ∀ (g e : Nat) (a1 : Int32) (n sl : Nat) (SH : Nat → Nat × Nat) (FI : Nat → Nat → Int32) (FL : Nat → Nat → Int64) (FR : Nat → Nat → Option Nat) (v : Option Nat) (s : hS), 0 ≤ a1.toInt → a1.toInt ≤ 7 → h_S n SH → s_ft FI → QX4 g e a1 n sl SH FI FL FR v s → ∃ c n2 sl2 SH2 F2 L2 R2, v = some c ∧ s = (n2, sl2, SH2, F2, L2, R2) ∧ h_S n2 SH2 ∧ s_ft F2 := by
  intro g
  induction g with
  | zero => intro e a1 n sl SH FI FL FR v s _ _ _ _ h; exact h.elim
  | succ g ih =>
    intro e a1 n sl SH FI FL FR v s ha0 ha7 hQ hf h
    have h176 := hQ.1
    match e, h with
    | 0, h =>
      obtain ⟨v0, n0, sl0, SH0, FI0, FL0, FR0, k0, v1, n1, sl1, SH1, FI1, FL1, FR1, k1, h⟩ := h
      obtain ⟨sl', SH', F', L', R', e, q0, q1, q2, q3⟩ := b_nw hQ k0
      cases e
      obtain ⟨-, e⟩ := k1
      cases e
      have ek : (h_up FI0 n 0 (FI0 110 8) n 0).toInt = 1 := by rw [h_up_eq, q2]; exact hf.2
      have hf0 : s_ft FI0 := by unfold s_ft; rw [q2]; exact hf
      have hf1 : s_ft (h_up FI0 n 0 (FI0 110 8)) := ft_c h176 hf0
      rcases h with ⟨hc, -⟩ | ⟨-, h⟩
      · exfalso; rw [ek] at hc; omega
      · rcases h with ⟨hc, -⟩ | ⟨-, h⟩
        · exfalso; rw [ek] at hc; omega
        · rcases h with ⟨hc, -⟩ | ⟨-, h⟩
          · exfalso; rw [ek] at hc; omega
          · rcases h with ⟨hc, -⟩ | ⟨-, h⟩
            · exfalso; rw [ek] at hc; omega
            · obtain ⟨v24, n24, sl24, SH24, FI24, FL24, FR24, hc, rfl, rfl⟩ := h
              have e := s_refuse_f hc hf1.1
              cases e
              exact ⟨n, _, _, _, _, _, _, rfl, rfl, q0.2.1, hf1⟩
    | 1, h =>
      rcases h with ⟨hc, h⟩ | ⟨-, h⟩
      · rw [show ((7 : Int32)).toInt = 7 by decide] at hc
        have ea : (a1 + (1 : Int32)).toInt = a1.toInt + 1 := i_add rfl (by decide) (by omega) (by omega)
        obtain ⟨v1, n1, sl1, SH1, FI1, FL1, FR1, hm, h⟩ := h
        obtain ⟨c, n9, sl9, SH9, F9, L9, R9, rfl, e, g1, g2⟩ := ih 1 _ _ _ _ _ _ _ _ _ (by omega) (by omega) hQ hf hm
        cases e
        rcases h with ⟨hs, -⟩ | ⟨-, rfl, rfl⟩
        · exfalso
          rw [c_lv, g2.2] at hs
          have : n_lv 1 = -1 := by decide
          omega
        · exact ⟨c, _, _, _, _, _, _, rfl, rfl, g1, g2⟩
      · obtain ⟨v8, n8, sl8, SH8, FI8, FL8, FR8, hm, rfl, rfl⟩ := h
        exact ih 0 0 _ _ _ _ _ _ _ _ (by decide) (by decide) hQ hf hm
    | e + 2, h =>
      obtain ⟨v0, n0, sl0, SH0, FI0, FL0, FR0, hm, h⟩ := h
      obtain ⟨c, n9, sl9, SH9, F9, L9, R9, rfl, e, g1, g2⟩ := ih 1 _ _ _ _ _ _ _ _ _ (by decide) (by decide) hQ hf hm
      cases e
      rcases h with ⟨hs, -⟩ | ⟨-, rfl, rfl⟩
      · exfalso
        rw [g2.2] at hs
        revert hs
        decide
      · exact ⟨c, _, _, _, _, _, _, rfl, rfl, g1, g2⟩
theorem p_get {g e : Nat} {a1 : Int32} (ih : p_P K W M g) (hQ : h_S n SH) (hq : q_tk K W M FI FL) (hv : s_vw M FI FL t o) (h0 : 0 ≤ o) (h12 : o ≤ 12) (ha0 : 0 ≤ a1.toInt) (ha7 : a1.toInt ≤ 7) (h : QX4 g e a1 n sl SH FI FL FR v s) : ∃ c n2 sl2 SH2 F2 L2 R2, v = some c ∧ s = (n2, sl2, SH2, F2, L2, R2) ∧ n ≤ c ∧ c < n2 ∧ b_ct n SH FI FL FR n2 SH2 F2 L2 R2 ∧ R2 c 6 = none ∧ p_ok K W M n (p_lv e a1) o t n2 F2 L2 R2 c := by
  obtain ⟨c, n2, sl2, SH2, F2, L2, R2, rfl, rfl, g1, g2, q1, q2⟩ := b_G g e a1 n sl SH FI FL FR v s hQ h
  obtain ⟨c', n', sl', SH', F', L', R', e1, e2, po⟩ := ih e a1 n sl SH FI FL FR _ _ t o hQ hq hv h0 h12 ha0 ha7 h
  cases e1
  cases e2
  exact ⟨c, n2, sl2, SH2, F2, L2, R2, rfl, rfl, g1, g2, q1, q2, po⟩
theorem p_un {g : Nat} (ih : p_P K W M g) (hQ : h_S n SH) (hq : q_tk K W M FI FL) (hv : s_vw M FI FL t o) (h0 : 0 ≤ o) (h12 : o ≤ 12) {a1 : Int32} (h : QX4 (g + 1) 0 a1 n sl SH FI FL FR v s) : p_res K W M n 8 o t v s := by
  have h176 := hQ.1
  obtain ⟨v0, n0, sl0, SH0, FI0, FL0, FR0, k0, v1, n1, sl1, SH1, FI1, FL1, FR1, k1, h⟩ := h
  obtain ⟨sl', SH', F', L', R', e, q0, q1, q2, q3⟩ := b_nw hQ k0
  cases e
  obtain ⟨-, e⟩ := k1
  cases e
  have hQ1 := q0.2.1
  have w1 := s_wL (c := n) (k := 1) (x := FL0 110 9) h176 (s_wI (c := n) (k := 0) (x := FI0 110 8) h176 (s_new h176 q0 q2 q3 hq hv))
  have kd := s_kd hq hv
  have ek : h_up FI0 n 0 (FI0 110 8) n 0 = FI 110 8 := by rw [h_up_eq, q2]
  have el : h_up FL0 n 1 (FL0 110 9) n 1 = FL 110 9 := by rw [h_up_eq, q3]
  rcases h with ⟨hc, h⟩ | ⟨hc, h⟩
  · -- a number, fb, cfa, obj
    rw [ek] at hc
    obtain ⟨v3, n3, sl3, SH3, FI3, FL3, FR3, hk, rfl, rfl⟩ := h
    rcases kd with ⟨ht, kd, -, kr, k3, k4⟩ | ⟨-, -, kd⟩
    · obtain ⟨F3, L3, e, a3, w3⟩ := s_take hk w1.1 w1.2 ht
      cases e
      have e0 : FI3 n 0 = FI 110 8 := (a3.1 n 0 (by omega)).trans ek
      have e1 : FL3 n 1 = FL 110 9 := (a3.2 n 1 (by omega)).trans el
      obtain ⟨code, c1, c2, c3⟩ := p_at (F := FI3) (L := FL3) (R := FR0) (c := n) (n := n) (n2 := n + 1) (o := o) (t := t) (by rw [e0]; exact kd) kr (by omega) (by rw [e1]; exact k3) h176 (Nat.le_refl _) (by omega)
      exact ⟨n, _, _, _, _, _, _, rfl, rfl, Or.inl ⟨t + 1, code, c1, by omega, w3, n_is_w c2 h176 (Nat.le_refl _) (Nat.le_refl _) (Nat.zero_le _), c3, fun h => by omega⟩⟩
    · exfalso; omega
  · rw [ek] at hc
    rcases h with ⟨hc2, h⟩ | ⟨hc2, h⟩
    · -- a sign ahead
      rw [ek] at hc2
      obtain ⟨v5, n5, sl5, SH5, FI5, FL5, FR5, hk, h⟩ := h
      obtain ⟨F5, e, a5, r5⟩ := s_raise hk w1.1 w1.2 h0
      cases e
      rcases kd with ⟨ht, kd, -, kr, k3, k4⟩ | ⟨-, -, kd⟩
      · have hu : lc_uy (K t) (W t) = true := (ck_un kr).1.mpr (by omega)
        rcases h with ⟨hz, rfl, rfl⟩ | ⟨hz, h⟩
        · rcases r5 with ⟨-, w, -⟩ | ⟨ho, -, ft⟩
          · exfalso; omega
          · exact ⟨n, _, _, _, _, _, _, rfl, rfl, Or.inr ⟨l_8n (Or.inl hu) ho, ft⟩⟩
        · rcases r5 with ⟨ho, -, w5⟩ | ⟨-, w, -⟩
          · obtain ⟨v7, n7, sl7, SH7, FI7, FL7, FR7, hc7, v8, n8, sl8, SH8, FI8, FL8, FR8, hm, rfl, rfl⟩ := h
            have q5 := q_a w1.1 a5
            obtain ⟨F7, L7, e, a7, w7⟩ := s_take hc7 q5 w5 ht
            cases e
            have q7 := q_a q5 a7
            obtain ⟨c, n9, sl9, SH9, F9, L9, R9, rfl, e, g1, g2, q8, q9, po⟩ := p_get (e := 0) (a1 := 0) ih hQ1 q7 w7 (by omega) (by omega) (by decide) (by decide) hm
            cases e
            have po : p_ok K W M (n + 1) 8 (o + 1) (t + 1) _ _ _ _ c := po
            rcases po with ⟨t2, code, lev, ht2, w8, nis, pk, -⟩ | ⟨lev, ft⟩
            · have m8 := q8.1
              have e0 : FI8 n 0 = FI 110 8 := ((q8.2.2.1 n 0 (by omega) (by omega)).trans (a7.1 n 0 (by omega))).trans ((a5.1 n 0 (by omega)).trans ek)
              have e1 : FL8 n 1 = FL 110 9 := ((q8.2.2.2.1 n 1 (by omega) (by omega)).trans (a7.2 n 1 (by omega))).trans ((a5.2 n 1 (by omega)).trans el)
              have e0' : h_up FI8 110 4 ((FI8 110 4) - (1 : Int32)) n 0 = FI 110 8 := by rw [h_up_nc (by omega)]; exact e0
              have ce := ck_e kr
              have nis2 : n_is (h_up FI8 110 4 ((FI8 110 4) - (1 : Int32))) FL8 (h_up FR8 n 3 (some c)) (n + 1) n8 c (p_H 8 (o + 1)) code := n_is_fr nis ⟨fun q k b1 b2 _ _ => by rw [h_up_nc (by omega)], fun q k b1 b2 _ => rfl, fun q k b1 b2 _ _ => by rw [h_up_nc (by omega)]⟩
              have nis3 := n_is_un (lo := n) (hi := n8) (c := n) h176 (Nat.le_refl _) (by omega) (by rw [e0', e1]; unfold n_rg; rw [decide_eq_true_eq]; refine ⟨fun h => ?_, fun h => ?_, fun h => ?_⟩ <;> omega) (by rw [e0']; omega) h_up_eq nis2 (by omega) (Nat.le_refl _) (by omega)
              rw [e0', e1, kd, (ck_un kr).2 hu _ (fun h4 => (k4 h4).1)] at nis3
              refine ⟨n, _, _, _, _, _, _, rfl, rfl, Or.inl ⟨t2, _, l_8u hu ho lev, by omega, s_low w8 h0 h12, n_is_w nis3 h176 (Nat.le_refl _) (Nat.le_refl _) (by unfold p_H; omega), p_kd_n (by rw [e0']; omega) (by rw [e0']; omega) (by rw [e0']; omega) (by omega) (bs_n (by omega) (by omega)), fun h => by omega⟩⟩
            · exact ⟨n, _, _, _, _, _, _, rfl, rfl, Or.inr ⟨l_8u hu ho lev, ft_4 ft⟩⟩
          · exfalso; omega
      · exfalso; omega
    · rw [ek] at hc2
      rcases h with ⟨hc3, h⟩ | ⟨hc3, h⟩
      · -- % r
        rw [ek] at hc3
        obtain ⟨v12, n12, sl12, SH12, FI12, FL12, FR12, hk, v13, n13, sl13, SH13, FI13, FL13, FR13, hk2, v15, n15, sl15, SH15, FI15, FL15, FR15, hk3, rfl, rfl⟩ := h
        rcases kd with ⟨ht, kd, -, kr, k3, k4⟩ | ⟨-, -, kd⟩
        · have ce := ck_e kr
          have hK : K t = 5 ∧ W t = 37 := by omega
          have hu : lc_uy (K t) (W t) = false := by unfold lc_uy; rw [decide_eq_false_iff_not]; omega
          have h8 : l_ev K W 8 o t (lc_at K W false t) := l_8 hu (by omega)
          rw [at_r hK] at h8
          obtain ⟨F12, L12, e, a12, w12⟩ := s_take hk w1.1 w1.2 ht
          cases e
          have q12 := q_a w1.1 a12
          have kd2 := s_kd q12 w12
          have e0 : FI12 n 0 = FI 110 8 := (a12.1 n 0 (by omega)).trans ek
          rcases hk2 with ⟨h5, hk2⟩ | ⟨h5, rfl, e⟩
          · rw [show ((5 : Int32)).toInt = 5 by decide] at h5
            rcases kd2 with ⟨ht2, kd2, -, kr2, k32, -⟩ | ⟨-, -, kd2⟩
            · have ce2 := ck_e kr2
              have hK2 : K (t + 1) = 3 := by omega
              obtain ⟨j1, j2, j3⟩ := k32 hK2
              rcases hk2 with ⟨h32, rfl, e⟩ | ⟨h32, hk2⟩
              · rw [show ((32 : Int64)).toInt = 32 by decide] at h32
                cases e
                obtain ⟨q13, w13⟩ := s_wL (c := n) (k := 1) (x := FL12 110 9) h176 ⟨q12, w12⟩
                obtain ⟨F15, L15, e, a15, r15⟩ := s_expect (w := 5) hk3 (by decide) (by decide) q13 w13
                cases e
                rcases r15 with ⟨-, -, w15⟩ | ⟨r, -⟩
                · have e15 : FI15 n 0 = FI 110 8 := (a15.1 n 0 (by omega)).trans e0
                  have l15 : (FL15 n 1).toInt = W (t + 1) := by rw [a15.2 n 1 (by omega), h_up_eq]; exact j1
                  obtain ⟨code, c1, c2, c3⟩ := p_rg (F := FI15) (L := FL15) (R := FR0) (c := n) (n := n) (n2 := n + 1) (o := o) (t := t) (by rw [e15]; exact hc3) hK hK2 l15 j2 (by omega) h176 (Nat.le_refl _) (by omega)
                  exact ⟨n, _, _, _, _, _, _, rfl, rfl, Or.inl ⟨t + 2, code, c1, by omega, w15, n_is_w c2 h176 (Nat.le_refl _) (Nat.le_refl _) (Nat.zero_le _), c3, fun h => by omega⟩⟩
                · exfalso
                  have := r ht2
                  omega
              · rw [show ((32 : Int64)).toInt = 32 by decide] at h32
                obtain ⟨v2, n2', sl2', SH2', FI2', FL2', FR2', hr, rfl, e⟩ := hk2
                obtain ⟨F3, e', a3, ft⟩ := s_refuse hr (by decide) q12 w12
                cases e'
                cases e
                have e := s_expect_f hk3 ft.1
                cases e
                rw [if_neg (by omega)] at h8
                exact ⟨n, _, _, _, _, _, _, rfl, rfl, Or.inr ⟨h8, ft⟩⟩
            · exfalso; omega
          · rw [show ((5 : Int32)).toInt = 5 by decide] at h5
            cases e
            obtain ⟨q13, w13⟩ := s_wL (c := n) (k := 1) (x := FL12 110 9) h176 ⟨q12, w12⟩
            obtain ⟨F15, L15, e, a15, r15⟩ := s_expect (w := 5) hk3 (by decide) (by decide) q13 w13
            cases e
            have n3 : K (t + 1) ≠ 3 := by
              rcases kd2 with ⟨-, kd2, -, kr2, -, -⟩ | ⟨e, kK, -⟩
              · intro h3
                have ce2 := ck_e kr2
                omega
              · omega
            rw [if_neg (fun h => n3 h.1)] at h8
            rcases r15 with ⟨ht2, r, -⟩ | ⟨-, ft⟩
            · exfalso
              rcases kd2 with ⟨-, kd2, -, kr2, -, -⟩ | ⟨e, kK, -⟩
              · omega
              · omega
            · exact ⟨n, _, _, _, _, _, _, rfl, rfl, Or.inr ⟨h8, ft⟩⟩
        · exfalso; omega
      · rw [ek] at hc3
        rcases h with ⟨hc4, h⟩ | ⟨hc4, h⟩
        · -- a parenthesis
          rw [ek] at hc4
          obtain ⟨v5, n5, sl5, SH5, FI5, FL5, FR5, hk, h⟩ := h
          obtain ⟨F5, e, a5, r5⟩ := s_raise hk w1.1 w1.2 h0
          cases e
          rcases kd with ⟨ht, kd, -, kr, k3, k4⟩ | ⟨-, -, kd⟩
          · have ce := ck_e kr
            have hK : K t = 5 ∧ W t = 40 := by omega
            rcases h with ⟨hz, rfl, rfl⟩ | ⟨hz, h⟩
            · rcases r5 with ⟨-, w, -⟩ | ⟨ho, -, ft⟩
              · exfalso; omega
              · exact ⟨n, _, _, _, _, _, _, rfl, rfl, Or.inr ⟨l_8n (Or.inr hK) ho, ft⟩⟩
            · rcases r5 with ⟨ho, -, w5⟩ | ⟨-, w, -⟩
              · obtain ⟨v7, n7, sl7, SH7, FI7, FL7, FR7, hc7, v8, n8, sl8, SH8, FI8, FL8, FR8, hm, v22, n22, sl22, SH22, FI22, FL22, FR22, hc8, rfl, rfl⟩ := h
                have q5 := q_a w1.1 a5
                obtain ⟨F7, L7, e, a7, w7⟩ := s_take hc7 q5 w5 ht
                cases e
                have q7 := q_a q5 a7
                obtain ⟨c, n9, sl9, SH9, F9, L9, R9, rfl, e, g1, g2, q8, q9, po⟩ := p_get (e := 2) (a1 := 0) ih hQ1 q7 w7 (by omega) (by omega) (by decide) (by decide) hm
                cases e
                have po : p_ok K W M (n + 1) 0 (o + 1) (t + 1) _ _ _ _ c := po
                rcases po with ⟨t2, code, lev, ht2, w8, nis, pk, -⟩ | ⟨lev, ft⟩
                · have m8 := q8.1
                  have hq8 := q_b q7 q8 (by omega)
                  obtain ⟨F22, L22, e, a22, r22⟩ := s_expect (w := 41) hc8 (by decide) (by decide) hq8 w8
                  cases e
                  have l8 : l_ev K W 8 o t (if K t2 = 5 ∧ W t2 = 41 then some (t2 + 1, code) else none) := l_8p hK ho lev
                  rcases r22 with ⟨ht3, r, w22⟩ | ⟨r, ft⟩
                  · have kr2 := (hq8.2.1 t2 ht3).2.1
                    have ce2 := ck_e kr2
                    rw [if_pos (by omega)] at l8
                    have e0 : FI22 n 0 = FI 110 8 := (a22.1 n 0 (by omega)).trans (((q8.2.2.1 n 0 (by omega) (by omega)).trans (a7.1 n 0 (by omega))).trans ((a5.1 n 0 (by omega)).trans ek))
                    have e0' : h_up FI22 110 4 ((FI22 110 4) - (1 : Int32)) n 0 = FI 110 8 := by rw [h_up_nc (by omega)]; exact e0
                    have nis2 : n_is (h_up FI22 110 4 ((FI22 110 4) - (1 : Int32))) FL22 (h_up FR8 n 3 (some c)) (n + 1) n8 c (p_H 0 (o + 1)) code := n_is_fr nis ⟨fun q k b1 b2 _ _ => by rw [h_up_nc (by omega)]; exact a22.1 q k (by omega), fun q k b1 b2 _ => a22.2 q k (by omega), fun q k b1 b2 _ _ => by rw [h_up_nc (by omega)]⟩
                    have nis3 := n_is_un (lo := n) (hi := n8) (c := n) h176 (Nat.le_refl _) (by omega) (by rw [e0']; unfold n_rg; rw [decide_eq_true_eq]; refine ⟨fun h => ?_, fun h => ?_, fun h => ?_⟩ <;> omega) (by rw [e0']; omega) h_up_eq nis2 (by omega) (Nat.le_refl _) (by omega)
                    have en : n_un (h_up FI22 110 4 ((FI22 110 4) - (1 : Int32)) n 0).toInt (FL22 n 1).toInt = [] := by rw [e0', hc4]; rfl
                    rw [en, List.append_nil] at nis3
                    refine ⟨n, _, _, _, _, _, _, rfl, rfl, Or.inl ⟨t2 + 1, _, l8, by omega, s_low w22 h0 h12, n_is_w nis3 h176 (Nat.le_refl _) (Nat.le_refl _) (by unfold p_H; omega), p_kd_n (by rw [e0']; omega) (by rw [e0']; omega) (by rw [e0']; omega) (by omega) (bs_n (by omega) (by omega)), fun h => by omega⟩⟩
                  · have n41 : ¬ (K t2 = 5 ∧ W t2 = 41) := by
                      intro h41
                      rcases s_kd hq8 w8 with ⟨k1, -, -, kr2, -⟩ | ⟨-, k1, -⟩
                      · have ce2 := ck_e kr2
                        have := r k1
                        omega
                      · omega
                    rw [if_neg n41] at l8
                    exact ⟨n, _, _, _, _, _, _, rfl, rfl, Or.inr ⟨l8, ft_4 ft⟩⟩
                · have e := s_expect_f hc8 ft.1
                  cases e
                  exact ⟨n, _, _, _, _, _, _, rfl, rfl, Or.inr ⟨l_8p hK ho lev, ft_4 ft⟩⟩
              · exfalso; omega
          · exfalso; omega
        · -- nothing of these
          rw [ek] at hc4
          obtain ⟨v24, n24, sl24, SH24, FI24, FL24, FR24, hk, rfl, rfl⟩ := h
          obtain ⟨F4, e, a4, ft⟩ := s_refuse hk (by decide) w1.1 w1.2
          cases e
          refine ⟨n, _, _, _, _, _, _, rfl, rfl, Or.inr ⟨?_, ft⟩⟩
          have hn : lc_uy (K t) (W t) = false ∧ ¬ (K t = 5 ∧ W t = 40) ∧ lc_at K W false t = none := by
            rcases kd with ⟨ht, kd, -, kr, k3, k4⟩ | ⟨-, kK, -⟩
            · have ce := ck_e kr
              refine ⟨?_, by omega, at_n (by omega) (by omega) (by omega) (by omega) (by omega)⟩
              cases hu : lc_uy (K t) (W t) with
              | false => rfl
              | true =>
                exfalso
                have := (ck_un kr).1.mp hu
                omega
            · exact ⟨by unfold lc_uy; rw [decide_eq_false_iff_not]; omega, by omega, at_n (by omega) (by omega) (by omega) (by omega) (by omega)⟩
          have h8 : l_ev K W 8 o t (lc_at K W false t) := l_8 hn.1 hn.2.1
          rw [hn.2.2] at h8
          exact h8
end PL
