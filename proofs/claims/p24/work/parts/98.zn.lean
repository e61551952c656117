/-! THE CLASS'S PARSER over expressions: chains. -/
section PN
variable {K W : Nat → Int} {M : Nat} {n sl : Nat} {SH : Nat → Nat × Nat} {FI : Nat → Nat → Int32} {FL : Nat → Nat → Int64} {FR : Nat → Nat → Option Nat} {v : Option Nat} {s : hS} {t t1 t2 l : Nat} {o : Int} {r : Option (Nat × List Int)} {ca ce : List Int}
/-- a link's bytes -/
theorem p_tm {e : Nat} (pke : p_kd K W (t1 + 1) t2 FI FL e) (sg : (FI e 2).toInt = t_ck (K t1) (W t1)) (kr : k_rg (K t1) (W t1)) (hb : au_bn (K t1) (W t1) = (l : Int)) (h1 : 1 ≤ l) (lev : l_ev K W (l + 1) o (t1 + 1) (some (t2, ce))) (hn : l + 1 = 7 → au_bn (K t2) (W t2) ≠ 7) : n_tm FI FL e ce = l_tm K W l t1 ce := by
  have ce1 := ck_e kr
  unfold n_tm
  by_cases h : (FI e 2).toInt = 43 ∧ (FI e 0).toInt = 5
  · have hK : K t1 = 5 ∧ W t1 = 43 := by omega
    have b6 := bn_6.mpr (⟨hK.1, Or.inl hK.2⟩ : K t1 = 5 ∧ (W t1 = 43 ∨ W t1 = 45))
    have l6 : l = 6 := by omega
    have k5 := pke.1.mp h.2
    have hal : lc_al K W (t1 + 1) = true := by
      unfold lc_al
      rw [decide_eq_true_eq]
      refine ⟨k5.1, ?_⟩
      rw [← k5.2]
      exact hn (by omega)
    unfold l_tm
    rw [if_pos h, if_pos (by rw [hal, Bool.and_true, decide_eq_true_eq]; exact ⟨l6, hK.2⟩), pke.2.1 k5]
  · rw [if_neg h]
    unfold l_tm
    rw [if_neg, sg, (ck_lv kr).2 (by omega)]
    intro hh
    obtain ⟨l6, e1⟩ := l_al2 hh lev
    have e2 : t2 = t1 + 2 := congrArg Prod.fst (Option.some.inj e1)
    rw [Bool.and_eq_true, decide_eq_true_eq] at hh
    obtain ⟨⟨-, w43⟩, hal⟩ := hh
    unfold lc_al at hal
    rw [decide_eq_true_eq] at hal
    have b6 := (bn_6 (k := K t1) (w := W t1)).mp (by omega)
    exact h ⟨by omega, pke.1.mpr ⟨hal.1, by omega⟩⟩
/-- the first two of a chain -/
theorem p_fst {a e : Nat} (pka : p_kd K W t t1 FI FL a) (pke : p_kd K W (t1 + 1) t2 FI FL e) (sg : (FI e 2).toInt = t_ck (K t1) (W t1)) (kr : k_rg (K t1) (W t1)) (hb : au_bn (K t1) (W t1) = (l : Int)) (h1 : 1 ≤ l) (h7 : l ≤ 7) (leva : l_ev K W (l + 1) o t (some (t1, ca))) (leve : l_ev K W (l + 1) o (t1 + 1) (some (t2, ce))) (hn : l + 1 = 7 → au_bn (K t2) (W t2) ≠ 7) (hp : l_px K W l o t2 (if ((FI a 0).toInt = 37 ∨ (FI a 0).toInt = 11) ∧ (FI e 0).toInt = 5 ∧ ((FI e 2).toInt = 43 ∨ (FI e 2).toInt = 45) then n_bs (FI a 0).toInt (FL a 1).toInt (n_sg (FI e 2).toInt (FL e 1).toInt) else ca ++ n_tm FI FL e ce) r) : l_ev K W l o t r := by
  have ce1 := ck_e kr
  by_cases h : ((FI a 0).toInt = 37 ∨ (FI a 0).toInt = 11) ∧ (FI e 0).toInt = 5 ∧ ((FI e 2).toInt = 43 ∨ (FI e 2).toInt = 45)
  · rw [if_pos h] at hp
    have hK : K t1 = 5 ∧ (W t1 = 43 ∨ W t1 = 45) := by omega
    have b6 := bn_6.mpr hK
    have l6 : l = 6 := by omega
    subst l6
    have k5 := pke.1.mp h.2.1
    have hal : lc_al K W (t1 + 1) = true := by
      unfold lc_al
      rw [decide_eq_true_eq]
      refine ⟨k5.1, ?_⟩
      rw [← k5.2]
      exact hn (by omega)
    obtain ⟨x, hx⟩ := pka.2.2.1.mp h.1
    have hcm : lc_cm K W t = true := by
      unfold lc_cm
      rw [hx]
      show lc_ad K W t1 = true
      unfold lc_ad
      rw [hal, Bool.and_true, decide_eq_true_eq]
      exact hK
    have es : n_sg (FI e 2).toInt (FL e 1).toInt = lc_sg K W t1 := by
      unfold n_sg lc_sg
      rw [pke.2.1 k5]
      rcases hK.2 with w | w
      · rw [if_neg (by omega), if_pos w]
      · rw [if_pos (by omega), if_neg (by omega)]
    rw [pka.2.2.2 x hx, es, show t2 = t1 + 2 by omega] at hp
    exact l_cmv hcm hx hp
  · rw [if_neg h, p_tm pke sg kr hb h1 leve hn] at hp
    refine l_lv h1 h7 (fun hh => ?_) leva (l_step hb leve hp)
    obtain ⟨b, x, k1, k2, k3, k4, -⟩ := l_cm_e hh.2
    obtain ⟨rfl, -⟩ := hh
    have e1 : t1 = b := congrArg Prod.fst (Option.some.inj (l_ev_u leva (k4 o)))
    subst e1
    have e2 : t2 = t1 + 1 + 1 := congrArg Prod.fst (Option.some.inj (l_ev_u leve (l_al7 k3)))
    unfold lc_al at k3
    rw [decide_eq_true_eq] at k3
    exact h ⟨pka.2.2.1.mpr ⟨x, k1⟩, pke.1.mpr ⟨k3.1, e2⟩, by omega⟩
/-- a fault ends a chain -/
theorem p_lf {M0 M2 : Nat → Nat → (Nat → Nat × Nat) → (Nat → Nat → Int32) → (Nat → Nat → Int64) → (Nat → Nat → Option Nat) → Option Nat → hS → Prop} {M1 : Int32 → Nat → Nat → (Nat → Nat × Nat) → (Nat → Nat → Int32) → (Nat → Nat → Int64) → (Nat → Nat → Option Nat) → Option Nat → hS → Prop} {a1 l5 l6 : Int32} {gl : Nat} {x y : Option Nat} (ha0 : 0 ≤ a1.toInt) (hf : s_ft FI) (h : GX4_readLevel_68 M0 M1 M2 a1 gl x y l5 l6 n sl SH FI FL FR v s) : v = x ∧ s = (n, sl, SH, FI, FL, FR) := by
  cases gl with
  | zero => exact h.elim
  | succ gl =>
    rcases h with ⟨-, h⟩ | ⟨-, rfl, rfl⟩
    · rcases h with ⟨hs, -⟩ | ⟨-, rfl, rfl⟩
      · exfalso
        rw [c_lv, hf.2] at hs
        have : n_lv 1 = -1 := by decide
        omega
      · exact ⟨rfl, rfl⟩
    · exact ⟨rfl, rfl⟩
/-- how the sign in hand binds -/
theorem s_bn (hq : q_tk K W M FI FL) (hv : s_vw M FI FL t o) : n_lv (FI 110 8).toInt + 1 = au_bn (K t) (W t) := by
  rcases s_kd hq hv with ⟨-, kd, -, kr, -⟩ | ⟨-, kK, kd⟩
  · rw [kd]; exact (ck_lv kr).1
  · rw [au_bn_o (by omega) (by omega)]
    rcases kd with kd | kd | kd <;> rw [kd] <;> decide
/-- the links of a chain behind the first two -/
theorem p_lp {g : Nat} (ih : p_P K W M g) {a1 : Int32} (hl : l = a1.toInt.toNat + 1) (ha0 : 0 ≤ a1.toInt) (ha7 : a1.toInt < 7) {x a : Nat} (h0 : 0 ≤ o) (h12 : o ≤ 12) (h176 : 176 ≤ n) (hnx : n ≤ x) : ∀ (gl last : Nat) (l5 l6 : Int32) (n1 sl1 : Nat) (SH1 : Nat → Nat × Nat) (F1 : Nat → Nat → Int32) (L1 : Nat → Nat → Int64) (R1 : Nat → Nat → Option Nat) (v : Option Nat) (s : hS) (t1 : Nat) (code : List Int), GX4_readLevel_68 (fun n sl SH FI FL FR => QX4 g 0 0 n sl SH FI FL FR) (fun a1 n sl SH FI FL FR => QX4 g 1 a1 n sl SH FI FL FR) (fun n sl SH FI FL FR => QX4 g 2 0 n sl SH FI FL FR) a1 gl (some x) (some last) l5 l6 n1 sl1 SH1 F1 L1 R1 v s → h_S n1 SH1 → q_tk K W M F1 L1 → s_vw M F1 L1 t1 o → x < n1 → n_cw F1 L1 R1 n n1 x a last (p_H (l + 1) o) code → (F1 x 0).toInt = 25 → R1 x 3 = some a → R1 last 6 = none → (l = 4 → l5.toInt ≤ l6.toInt) → (l ≠ 4 → l5.toInt = 1000 ∧ 0 ≤ l6.toInt ∧ l6.toInt ≤ t1) → ∃ n2 sl2 SH2 F2 L2 R2, v = some x ∧ s = (n2, sl2, SH2, F2, L2, R2) ∧ ((∃ t2 code2, l_px K W l o t1 code (some (t2, code2)) ∧ t1 ≤ t2 ∧ s_vw M F2 L2 t2 o ∧ n_is F2 L2 R2 n n2 x (p_H l o) code2 ∧ (F2 x 0).toInt = 25 ∧ (l ≠ 4 → au_bn (K t2) (W t2) ≠ (l : Int))) ∨ (l_px K W l o t1 code none ∧ s_ft F2)) := by
  intro gl
  induction gl with
  | zero => intro last l5 l6 n1 sl1 SH1 F1 L1 R1 v s t1 code h; exact h.elim
  | succ gl ihl =>
    intro last l5 l6 n1 sl1 SH1 F1 L1 R1 v s t1 code h hQ hq hv hx hw hk h3 h6 i4 i5
    have hM := hq.1
    have htM := hv.2.2.1
    have bn := s_bn hq hv
    have hH : p_H (l + 1) o + 1 = p_H l o := by unfold p_H; omega
    have nis := n_is_cw hw hnx hx hk h3 h6
    rw [hH] at nis
    rcases h with ⟨hi, h⟩ | ⟨hi, rfl, rfl⟩
    · have l4 : l ≠ 4 := fun e => by have := i4 e; omega
      obtain ⟨j1, j2, j3⟩ := i5 l4
      rcases h with ⟨hs, h⟩ | ⟨hs, rfl, rfl⟩
      · rw [c_lv] at hs
        have hb : au_bn (K t1) (W t1) = (l : Int) := by omega
        obtain ⟨v3, n3, sl3, SH3, FI3, FL3, FR3, hc, v4, n4, sl4, SH4, FI4, FL4, FR4, hm, c6, e6, c7, e7, c8, e8, hK⟩ := h
        cases e6
        cases e7
        rcases s_kd hq hv with ⟨ht, kd, -, kr, -, -⟩ | ⟨-, kK, -⟩
        · obtain ⟨F3, L3, e, a3, w3⟩ := s_take hc hq hv ht
          cases e
          have q3 := q_a hq a3
          have ea : (a1 + (1 : Int32)).toInt = a1.toInt + 1 := i_add rfl (by decide) (by omega) (by omega)
          obtain ⟨c, n9, sl9, SH9, F9, L9, R9, rfl, e, g1, g2, q4, q5, po⟩ := p_get (e := 1) ih hQ q3 w3 h0 h12 (by omega) (by omega) hm
          cases e
          have el : p_lv 1 (a1 + (1 : Int32)) = l + 1 := by show (a1 + (1 : Int32)).toInt.toNat + 1 = l + 1; rw [ea]; omega
          rw [el] at po
          rw [h_up_eq] at e8 hK
          cases e8
          have b1 := hw.2.1
          have b2 := hw.2.2.1
          have b3 := hw.2.2.2.1
          have m4 := q4.1
          rcases po with ⟨t2, ce, lev, ht2, w4, ni4, pk, h7⟩ | ⟨lev, ft⟩
          · have hw2 : n_cw (h_up FI4 c8 2 (F1 110 8)) FL4 (h_up FR4 last 6 (some c8)) n n1 x a last (p_H (l + 1) o) code := n_cw_fr hw ⟨fun q k y1 y2 _ => by rw [h_up_nc (by omega), q4.2.2.1 q k (by omega) (by omega)]; exact a3.1 q k (by omega), fun q k y1 y2 _ => by rw [q4.2.2.2.1 q k (by omega) (by omega)]; exact a3.2 q k (by omega), fun q k y1 y2 _ y4 => by rw [h_up_x y4]; exact q4.2.2.2.2.1 q k (by omega)⟩
            have ni5 : n_is (h_up FI4 c8 2 (F1 110 8)) FL4 (h_up FR4 last 6 (some c8)) n1 n4 c8 (p_H (l + 1) o) ce := n_is_fr ni4 ⟨fun q k y1 y2 _ y4 => by rw [h_up_x y4], fun q k y1 y2 _ => rfl, fun q k y1 y2 _ y4 => by rw [h_up_nc (by omega)]⟩
            have hw3 := n_cw_s hw2 ni5 h_up_eq (Nat.le_refl _) hx
            have pk2 : p_kd K W (t1 + 1) t2 (h_up FI4 c8 2 (F1 110 8)) FL4 c8 := p_kd_fr pk (h_up_ne (by decide)) rfl
            have sg : (h_up FI4 c8 2 (F1 110 8) c8 2).toInt = t_ck (K t1) (W t1) := by rw [h_up_eq]; exact kd
            rw [p_tm pk2 sg kr hb (by omega) lev h7] at hw3
            obtain ⟨q6, w6⟩ := s_wI (c := c8) (k := 2) (x := F1 110 8) (by omega) ⟨q_b q3 q4 (by omega), w4⟩
            have e66 : (l6 + (1 : Int32)).toInt = l6.toInt + 1 := i_add rfl (by decide) (by omega) (by omega)
            obtain ⟨n7, sl7, SH7, F7, L7, R7, rfl, rfl, res⟩ := ihl c8 l5 _ n4 sl4 SH4 _ FL4 _ v s t2 _ hK q4.2.1 q6 w6 (by omega) hw3 (by rw [h_up_nc (by omega), q4.2.2.1 x 0 (by omega) (by omega), a3.1 x 0 (by omega)]; exact hk) (by rw [h_up_x (by omega), q4.2.2.2.2.1 x 3 (by omega)]; exact h3) (by rw [h_up_nc (by omega)]; exact q5) (fun e => absurd e l4) (fun _ => ⟨j1, by omega, by omega⟩)
            refine ⟨_, _, _, _, _, _, rfl, rfl, ?_⟩
            rcases res with ⟨t3, code3, p1, p2, p3⟩ | ⟨p1, p2⟩
            · exact Or.inl ⟨t3, code3, ⟨fun e => absurd e l4, fun _ => l_step hb lev p1⟩, by omega, p3⟩
            · exact Or.inr ⟨⟨fun e => absurd e l4, fun _ => l_step hb lev p1⟩, p2⟩
          · obtain ⟨rfl, rfl⟩ := p_lf ha0 (ft_c (by omega) ft) hK
            exact ⟨_, _, _, _, _, _, rfl, rfl, Or.inr ⟨⟨fun e => absurd e l4, fun _ => l_stepn hb lev⟩, ft_c (by omega) ft⟩⟩
        · exfalso
          rw [au_bn_o (by omega) (by omega)] at hb
          omega
      · rw [c_lv] at hs
        have hb : au_bn (K t1) (W t1) ≠ (l : Int) := by omega
        exact ⟨_, _, _, _, _, _, rfl, rfl, Or.inl ⟨t1, code, ⟨fun e => absurd e l4, fun _ => l_stop hb⟩, Nat.le_refl _, hv, nis, hk, fun _ => hb⟩⟩
    · by_cases l4 : l = 4
      · exact ⟨_, _, _, _, _, _, rfl, rfl, Or.inl ⟨t1, code, ⟨fun _ => rfl, fun e => absurd l4 e⟩, Nat.le_refl _, hv, nis, hk, fun e => absurd l4 e⟩⟩
      · obtain ⟨j1, j2, j3⟩ := i5 l4
        have hb : au_bn (K t1) (W t1) ≠ (l : Int) := by
          rcases s_kd hq hv with ⟨ht, -⟩ | ⟨-, kK, -⟩
          · omega
          · rw [au_bn_o (by omega) (by omega)]
            omega
        exact ⟨_, _, _, _, _, _, rfl, rfl, Or.inl ⟨t1, code, ⟨fun e => absurd e l4, fun _ => l_stop hb⟩, Nat.le_refl _, hv, nis, hk, fun _ => hb⟩⟩
theorem p_le {g : Nat} (ih : p_P K W M g) (hQ : h_S n SH) (hq : q_tk K W M FI FL) (hv : s_vw M FI FL t o) (h0 : 0 ≤ o) (h12 : o ≤ 12) {a1 : Int32} (ha0 : 0 ≤ a1.toInt) (ha7 : a1.toInt ≤ 7) (h : QX4 (g + 1) 1 a1 n sl SH FI FL FR v s) : p_res K W M n (a1.toInt.toNat + 1) o t v s := by
  have h176 := hQ.1
  obtain ⟨l, hl⟩ : ∃ l : Nat, l = a1.toInt.toNat + 1 := ⟨_, rfl⟩
  rw [← hl]
  rcases h with ⟨hc, h⟩ | ⟨hc, h⟩
  · rw [show ((7 : Int32)).toInt = 7 by decide] at hc
    have ea : (a1 + (1 : Int32)).toInt = a1.toInt + 1 := i_add rfl (by decide) (by omega) (by omega)
    have el : p_lv 1 (a1 + (1 : Int32)) = l + 1 := by show (a1 + (1 : Int32)).toInt.toNat + 1 = l + 1; rw [ea]; omega
    obtain ⟨v1, n1, sl1, SH1, FI1, FL1, FR1, hm, h⟩ := h
    obtain ⟨c, n9, sl9, SH9, F9, L9, R9, rfl, e, g1, g2, q1, q2, po⟩ := p_get (e := 1) ih hQ hq hv h0 h12 (by omega) (by omega) hm
    cases e
    rw [el] at po
    have hQ1 := q1.2.1
    have hq1 := q_b hq q1 h176
    have hn1 := q1.1
    rcases po with ⟨t1, ca, leva, ht1, hv1, nisa, pka, h7⟩ | ⟨lev, ft⟩
    · have bn := s_bn hq1 hv1
      rcases h with ⟨hs, h⟩ | ⟨hs, rfl, rfl⟩
      · rw [c_lv] at hs
        have hb : au_bn (K t1) (W t1) = (l : Int) := by omega
        obtain ⟨v4, n4, sl4, SH4, FI4, FL4, FR4, k0, v5, n5, sl5, SH5, FI5, FL5, FR5, k1, h⟩ := h
        obtain ⟨sl', SH', F', L', R', e, q3, q4, q5, q6⟩ := b_nw hQ1 k0
        cases e
        obtain ⟨-, e⟩ := k1
        cases e
        obtain ⟨hq5, hv5⟩ := s_wL (c := n1) (k := 1) (x := (0 : Int64)) (by omega) (s_wI (c := n1) (k := 0) (x := (25 : Int32)) (by omega) (s_new (by omega) q3 q5 q6 hq1 hv1))
        have fin : ∀ {m : Int32}, (l = 4 → m.toInt = 1) → (l ≠ 4 → m.toInt = 1000) → RX4_readLevel_63 (fun n sl SH FI FL FR => QX4 g 0 0 n sl SH FI FL FR) (fun a1 n sl SH FI FL FR => QX4 g 1 a1 n sl SH FI FL FR) (fun n sl SH FI FL FR => QX4 g 2 0 n sl SH FI FL FR) a1 (some n1) (some c) m (n1 + 1) sl4 SH4 (h_up FI4 n1 0 (25 : Int32)) (h_up FL4 n1 1 (0 : Int64)) (h_up FR4 n1 3 (some c)) v s → p_res K W M n l o t v s := by
          intro m m4 m5 h
          obtain ⟨gl, h⟩ := h
          cases gl with
          | zero => exact h.elim
          | succ gl =>
            have z0 : ((0 : Int32)).toInt = 0 := by decide
            rcases h with ⟨hi, h⟩ | ⟨hi, -, -⟩
            · rcases h with ⟨hs2, h⟩ | ⟨hs2, -, -⟩
              · obtain ⟨v3, n3, sl3, SH3, FI3, FL3, FR3, hc3, v7, n7, sl7, SH7, FI7, FL7, FR7, hm7, c6, e6, c7, e7, c8, e8, hK⟩ := h
                cases e6
                cases e7
                rcases s_kd hq5 hv5 with ⟨ht, kd, -, kr, -, -⟩ | ⟨-, kK, -⟩
                · obtain ⟨F3, L3, e, a3, w3⟩ := s_take hc3 hq5 hv5 ht
                  cases e
                  have q7 := q_a hq5 a3
                  obtain ⟨c', n9, sl9, SH9, F9, L9, R9, rfl, e, y1, y2, q8, q9, po⟩ := p_get (e := 1) ih q3.2.1 q7 w3 h0 h12 (by omega) (by omega) hm7
                  cases e
                  rw [el] at po
                  rw [h_up_eq] at e8 hK
                  cases e8
                  have m8 := q8.1
                  rcases po with ⟨t2, ce, leve, ht2, w8, nise, pke, h72⟩ | ⟨lev, ft⟩
                  · obtain ⟨fE, hfE⟩ : ∃ f, f = h_up FI7 c8 2 (h_up FI4 n1 0 (25 : Int32) 110 8) := ⟨_, rfl⟩
                    obtain ⟨rE, hrE⟩ : ∃ f, f = h_up FR7 c 6 (some c8) := ⟨_, rfl⟩
                    rw [← hfE, ← hrE] at hK
                    -- what the cells below the chain's node say
                    have f0 : ∀ q k, n ≤ q → q < n1 → fE q k = FI1 q k := fun q k z1 z2 => by rw [hfE, h_up_nc (by omega), q8.2.2.1 q k (by omega) (by omega), a3.1 q k (by omega), h_up_nc (by omega), q3.2.2.1 q k (by omega) (by omega)]
                    have f1 : ∀ q k, n ≤ q → q < n1 → FL7 q k = FL1 q k := fun q k z1 z2 => by rw [q8.2.2.2.1 q k (by omega) (by omega), a3.2 q k (by omega), h_up_nc (by omega), q3.2.2.2.1 q k (by omega) (by omega)]
                    have f2 : ∀ q k, n ≤ q → q < n1 → ¬ (q = c ∧ k = 6) → rE q k = FR1 q k := fun q k z1 z2 z3 => by rw [hrE, h_up_x z3, q8.2.2.2.2.1 q k (by omega), h_up_nc (by omega), q3.2.2.2.2.1 q k (by omega)]
                    have na : n_is fE FL7 rE n n1 c (p_H (l + 1) o) ca := n_is_fr nisa ⟨fun q k z1 z2 _ _ => f0 q k z1 z2, fun q k z1 z2 _ => f1 q k z1 z2, fun q k z1 z2 _ z4 => f2 q k z1 z2 z4⟩
                    have ne : n_is fE FL7 rE (n1 + 1) n7 c8 (p_H (l + 1) o) ce := n_is_fr nise ⟨fun q k z1 z2 _ z4 => by rw [hfE, h_up_x z4], fun q k z1 z2 _ => rfl, fun q k z1 z2 _ z4 => by rw [hrE, h_up_nc (by omega)]⟩
                    have hw := n_cw_1 (lo := n) (hi := n7) (x := n1) na ne (by rw [hrE, h_up_eq]) (Nat.le_refl _) (by omega) (Nat.le_refl _) h176 ⟨by omega, by omega⟩
                    have pka2 : p_kd K W t t1 fE FL7 c := p_kd_fr pka (f0 c 0 g1 g2) (f1 c 1 g1 g2)
                    have pke2 : p_kd K W (t1 + 1) t2 fE FL7 c8 := p_kd_fr pke (by rw [hfE, h_up_ne (by decide)]) rfl
                    have sg : (fE c8 2).toInt = t_ck (K t1) (W t1) := by rw [hfE, h_up_eq]; exact kd
                    have fst := fun r hp => p_fst (r := r) pka2 pke2 sg kr hb (by omega) (by omega) leva leve h72 hp
                    obtain ⟨q10, w10⟩ := s_wI (c := c8) (k := 2) (x := h_up FI4 n1 0 (25 : Int32) 110 8) (by omega) ⟨q_b q7 q8 (by omega), w8⟩
                    rw [← hfE] at q10 w10
                    have e66 : ((0 : Int32) + (1 : Int32)).toInt = 1 := by decide
                    obtain ⟨n12, sl12, SH12, F12, L12, R12, rfl, rfl, res⟩ := p_lp ih hl ha0 hc h0 h12 h176 hn1 gl c8 m _ n7 sl7 SH7 fE FL7 rE v s t2 _ hK q8.2.1 q10 w10 (by omega) hw (by rw [hfE, h_up_nc (by omega), q8.2.2.1 n1 0 (by omega) (by omega), a3.1 n1 0 (by omega), h_up_eq]; decide) (by rw [hrE, h_up_nc (by omega), q8.2.2.2.2.1 n1 3 (by omega), h_up_eq]) (by rw [hrE, h_up_nc (by omega)]; exact q9) (fun e => by rw [m4 e, e66]; decide) (fun e => ⟨m5 e, by rw [e66]; decide, by rw [e66]; omega⟩)
                    refine ⟨n1, _, _, _, _, _, _, rfl, rfl, ?_⟩
                    rcases res with ⟨t3, code3, p1, p2, p3, p4, p5, p6⟩ | ⟨p1, p2⟩
                    · exact Or.inl ⟨t3, code3, fst _ p1, by omega, p3, p4, p_kd_f (by omega) (by omega) (by omega) (by omega), fun e7 => by have := p6 (by omega); omega⟩
                    · exact Or.inr ⟨fst _ p1, p2⟩
                  · obtain ⟨rfl, rfl⟩ := p_lf ha0 (ft_c (by omega) ft) hK
                    refine ⟨n1, _, _, _, _, _, _, rfl, rfl, Or.inr ⟨?_, ft_c (by omega) ft⟩⟩
                    refine l_lv (by omega) (by omega) (fun hh => ?_) leva (l_stepn hb lev)
                    obtain ⟨b, x, k1, k2, k3, k4, -⟩ := l_cm_e hh.2
                    obtain ⟨rfl, -⟩ := hh
                    have e1 : t1 = b := congrArg Prod.fst (Option.some.inj (l_ev_u leva (k4 o)))
                    subst e1
                    have e2 := l_ev_u lev (l_al7 k3)
                    cases e2
                · exfalso
                  rw [au_bn_o (by omega) (by omega)] at hb
                  omega
              · exfalso
                rw [c_lv] at hs2
                have e110 : h_up FI4 n1 0 (25 : Int32) 110 8 = FI1 110 8 := by rw [h_up_nc (by omega), q5]
                rw [e110] at hs2
                exact hs2 hs
            · exfalso
              rw [z0] at hi
              by_cases l4 : l = 4
              · have := m4 l4; omega
              · have := m5 l4; omega
        rcases h with ⟨h3, h⟩ | ⟨h3, h⟩
        · rw [show ((3 : Int32)).toInt = 3 by decide] at h3
          exact fin (fun _ => by decide) (fun e => absurd (by omega) e) h
        · rw [show ((3 : Int32)).toInt = 3 by decide] at h3
          exact fin (fun e => absurd (by omega) h3) (fun _ => by decide) h
      · rw [c_lv] at hs
        exact ⟨c, _, _, _, _, _, _, rfl, rfl, Or.inl ⟨t1, ca, l_alone (by omega) (by omega) leva (by omega), ht1, hv1, n_is_w nisa h176 (Nat.le_refl _) (Nat.le_refl _) (by unfold p_H; omega), pka, fun e7 => by omega⟩⟩
    · rcases h with ⟨hs, h⟩ | ⟨hs, rfl, rfl⟩
      · exfalso
        rw [c_lv, ft.2] at hs
        have : n_lv 1 = -1 := by decide
        omega
      · exact ⟨c, _, _, _, _, _, _, rfl, rfl, Or.inr ⟨l_none (by omega) (by omega) lev, ft⟩⟩
  · rw [show ((7 : Int32)).toInt = 7 by decide] at hc
    have l8 : l = 8 := by omega
    subst l8
    obtain ⟨v8, n8, sl8, SH8, FI8, FL8, FR8, hm, rfl, rfl⟩ := h
    exact ih 0 0 n sl SH FI FL FR _ _ t o hQ hq hv h0 h12 (by decide) (by decide) hm
end PN
