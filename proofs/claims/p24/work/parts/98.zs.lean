/-! THE CLASS'S PARSER: a location read. -/
def l_pt (K W : Nat → Int) (m t : Nat) (r : Option (Nat × List Int)) : Prop := ∃ F0, ∀ f g, F0 ≤ f → 20 ≤ g + m → lp_pt K W f g m t = r
/-- behind a part -/
def l_rt (K W : Nat → Int) (m t : Nat) (r : Option (Nat × List Int)) : Prop := ∃ F0, ∀ f g, F0 ≤ f → 20 ≤ g + m → (if K t = 5 ∧ W t = 44 then lp_pt K W f g m (t + 1) else if K t = 5 ∧ W t = 125 then some (t + 1, []) else none) = r
section LP
variable {K W : Nat → Int} {m t t1 t2 : Nat} {o : Int} {c c2 : List Int}
theorem l_pl_is {x : Nat × List Int} (h : l_pl K W o t (some x)) : lp_is (K t) (W t) = true := by
  obtain ⟨F0, h⟩ := h
  have h := h F0 (Nat.le_refl _)
  by_cases hi : lp_is (K t) (W t) = true
  · exact hi
  · rw [if_neg hi] at h
    cases h
theorem l_pt_ok (hm : m < 8) (h : l_pl K W 1 t (some (t1, c))) (hw : K t1 = 5 ∧ W t1 = 47 ∧ K (t1 + 1) = 3 ∧ W (t1 + 1) ≤ 64) (hr : l_rt K W (m + 1) (t1 + 2) (some (t2, c2))) : l_pt K W m t (some (t2, (c ++ 147 :: lc_u 9 (W (t1 + 1))) ++ c2)) := by
  have hi := l_pl_is h
  obtain ⟨a, h⟩ := h
  obtain ⟨b, hr⟩ := hr
  refine ⟨a + b, fun f g hf hg => ?_⟩
  cases g with
  | zero => omega
  | succ g =>
    have h := h f (by omega)
    rw [if_pos hi] at h
    have hr := hr f g (by omega) (by omega)
    rw [lp_pt, if_pos ⟨hi, hm⟩, h]
    dsimp only
    rw [if_pos hw]
    by_cases hc : K (t1 + 2) = 5 ∧ W (t1 + 2) = 44
    · rw [if_pos hc] at hr ⊢
      have hr : lp_pt K W f g (m + 1) (t1 + 3) = some (t2, c2) := hr
      rw [hr, List.append_assoc]
      rfl
    · rw [if_neg hc] at hr ⊢
      by_cases hd : K (t1 + 2) = 5 ∧ W (t1 + 2) = 125
      · rw [if_pos hd] at hr ⊢
        cases hr
        rw [List.append_nil]
      · rw [if_neg hd] at hr
        cases hr
theorem l_pt_n1 (h : l_pl K W 1 t none) : l_pt K W m t none := by
  obtain ⟨a, h⟩ := h
  refine ⟨a, fun f g hf hg => ?_⟩
  cases g with
  | zero => rw [lp_pt]
  | succ g =>
    have h := h f hf
    rw [lp_pt]
    by_cases hi : lp_is (K t) (W t) = true ∧ m < 8
    · rw [if_pos hi.1] at h
      rw [if_pos hi, h]
    · rw [if_neg hi]
theorem l_pt_n2 (h : l_pl K W 1 t (some (t1, c))) (hw : ¬ (K t1 = 5 ∧ W t1 = 47 ∧ K (t1 + 1) = 3 ∧ W (t1 + 1) ≤ 64)) : l_pt K W m t none := by
  have hi := l_pl_is h
  obtain ⟨a, h⟩ := h
  refine ⟨a, fun f g hf hg => ?_⟩
  cases g with
  | zero => rw [lp_pt]
  | succ g =>
    have h := h f hf
    rw [if_pos hi] at h
    rw [lp_pt]
    by_cases hm : lp_is (K t) (W t) = true ∧ m < 8
    · rw [if_pos hm, h]
      dsimp only
      rw [if_neg hw]
    · rw [if_neg hm]
theorem l_pt_n3 (h : l_pl K W 1 t (some (t1, c))) (hw : K t1 = 5 ∧ W t1 = 47 ∧ K (t1 + 1) = 3 ∧ W (t1 + 1) ≤ 64) (hr : l_rt K W (m + 1) (t1 + 2) none) : l_pt K W m t none := by
  have hi := l_pl_is h
  obtain ⟨a, h⟩ := h
  obtain ⟨b, hr⟩ := hr
  refine ⟨a + b, fun f g hf hg => ?_⟩
  cases g with
  | zero => rw [lp_pt]
  | succ g =>
    have h := h f (by omega)
    rw [if_pos hi] at h
    have hr := hr f g (by omega) (by omega)
    rw [lp_pt]
    by_cases hm : lp_is (K t) (W t) = true ∧ m < 8
    · rw [if_pos hm, h]
      dsimp only
      rw [if_pos hw]
      by_cases hc : K (t1 + 2) = 5 ∧ W (t1 + 2) = 44
      · rw [if_pos hc] at hr ⊢
        have hr : lp_pt K W f g (m + 1) (t1 + 3) = none := hr
        rw [hr]
      · rw [if_neg hc] at hr ⊢
        by_cases hd : K (t1 + 2) = 5 ∧ W (t1 + 2) = 125
        · rw [if_pos hd] at hr
          cases hr
        · rw [if_neg hd]
    · rw [if_neg hm]
theorem l_pt_8 (hm : 8 ≤ m) : l_pt K W m t none := by
  refine ⟨0, fun f g hf hg => ?_⟩
  cases g with
  | zero => rw [lp_pt]
  | succ g => rw [lp_pt, if_neg (by omega)]
theorem l_rt_c {r : Option (Nat × List Int)} (hc : K t = 5 ∧ W t = 44) (h : l_pt K W m (t + 1) r) : l_rt K W m t r := by
  obtain ⟨a, h⟩ := h
  exact ⟨a, fun f g hf hg => by rw [if_pos hc]; exact h f g hf hg⟩
end LP
section BL
variable {lo n n1 n2 : Nat} {SH SH1 SH2 : Nat → Nat × Nat} {FI F1 F2 : Nat → Nat → Int32} {FL L1 L2 : Nat → Nat → Int64} {FR R1 R2 : Nat → Nat → Option Nat}
theorem b_lo (h : b_ct n SH FI FL FR n2 SH2 F2 L2 R2) (hl : lo ≤ n) : b_ct lo SH FI FL FR n2 SH2 F2 L2 R2 := by
  have := h.1
  exact ⟨by omega, h.2.1, fun c k g1 g2 => h.2.2.1 c k (by omega) g2, fun c k g1 g2 => h.2.2.2.1 c k (by omega) g2, fun c k g1 => h.2.2.2.2.1 c k (by omega), h.2.2.2.2.2.1, fun c g1 => h.2.2.2.2.2.2 c (by omega)⟩
theorem b_t0 (h : b_ct lo SH FI FL FR n1 SH1 F1 L1 R1) (h2 : b_ct lo SH1 F1 L1 R1 n2 SH2 F2 L2 R2) : b_ct lo SH FI FL FR n2 SH2 F2 L2 R2 :=
  ⟨h2.1, h2.2.1, fun c k g1 g2 => (h2.2.2.1 c k g1 g2).trans (h.2.2.1 c k g1 g2), fun c k g1 g2 => (h2.2.2.2.1 c k g1 g2).trans (h.2.2.2.1 c k g1 g2), fun c k g1 => (h2.2.2.2.2.1 c k g1).trans (h.2.2.2.2.1 c k g1), fun h3 => h2.2.2.2.2.2.1 (h.2.2.2.2.2.1 h3), fun c g1 => (h2.2.2.2.2.2.2 c g1).trans (h.2.2.2.2.2.2 c g1)⟩
theorem b_wd {c : Nat} (hQ : h_S n SH) (hn : lo ≤ n) (hc : lo ≤ c) (ha : a_wd c FI F2 FL L2) (hf : (FI 110 5).toInt ≠ 0 → (F2 110 5).toInt ≠ 0) : b_ct lo SH FI FL FR n SH F2 L2 FR :=
  ⟨hn, hQ, fun q k g1 g2 => ha.1 q k (fun e => g2 (Or.inl e)) (by omega), fun q k g1 g2 => ha.2 q k g2, fun _ _ _ => rfl, hf, fun _ _ => rfl⟩
end BL
section SM
variable {K W : Nat → Int} {M : Nat}
/-- one more part behind a fault -/
theorem s_80f {lo a l g n sl : Nat} {SH : Nat → Nat × Nat} {FI : Nat → Nat → Int32} {FL : Nat → Nat → Int64} {FR : Nat → Nat → Option Nat} {v : Option Nat} {s : hS} {l3 : Int32} (hQ : h_S n SH) (hf : s_ft FI) (hl : lo ≤ l) (hn : lo ≤ n) (h : RX4_readLocation_80 (GX4_readLocation_39 g) (some a) (some l) l3 n sl SH FI FL FR v s) : ∃ n2 sl2 SH2 F2 L2 R2, v = some a ∧ s = (n2, sl2, SH2, F2, L2, R2) ∧ n ≤ n2 ∧ b_ct lo SH FI FL FR n2 SH2 F2 L2 R2 ∧ s_ft F2 := by
  have h176 := hQ.1
  obtain ⟨v0, n0, sl0, SH0, FI0, FL0, FR0, hp, c2, e2, c3, e3, v3, n3, sl3, SH3, FI3, FL3, FR3, hw, hK⟩ := h
  cases e2
  cases e3
  obtain ⟨sl1, SH1, F1, L1, R1, rfl, e, b1, ft⟩ := s_place_f hQ hf hp
  cases e
  rw [h_up_eq] at hw hK
  obtain ⟨F3, e, a3, ft3⟩ := s_width_f h176 ft hw
  cases e
  obtain ⟨x, rfl, rfl⟩ := s_lf ft3 hK
  exact ⟨_, _, _, _, _, _, rfl, rfl, by omega, b_w4 (b_t0 (b_wR (b_lo b1 hn) hl) (b_wd b1.2.1 (by omega) hn a3 (fun _ => ft3.1))), ft_4 ft3⟩
theorem s_lp {lo a : Nat} (h176 : 176 ≤ lo) : ∀ (g l : Nat) (l3 : Int32) (n sl : Nat) (SH : Nat → Nat × Nat) (FI : Nat → Nat → Int32) (FL : Nat → Nat → Int64) (FR : Nat → Nat → Option Nat) (v : Option Nat) (s : hS) (t i : Nat) (code : List Int), GX4_readLocation_39 g (some a) (some l) l3 n sl SH FI FL FR v s → h_S n SH → q_tk K W M FI FL → s_vw M FI FL t 1 → l3.toInt = i → 1 ≤ i → i ≤ 8 → m_cw FI FL FR SH lo n a l code → FR l 5 = none → ∃ n2 sl2 SH2 F2 L2 R2, v = some a ∧ s = (n2, sl2, SH2, F2, L2, R2) ∧ n ≤ n2 ∧ b_ct lo SH FI FL FR n2 SH2 F2 L2 R2 ∧ ((∃ t2 code2, l_rt K W i t (some (t2, code2)) ∧ t < t2 ∧ s_vw M F2 L2 t2 0 ∧ m_lc F2 L2 R2 SH2 lo n2 a (code ++ code2)) ∨ (l_rt K W i t none ∧ s_ft F2)) := by
  have z8 : ((8 : Int32)).toInt = 8 := by decide
  have z44 : ((44 : Int32)).toInt = 44 := by decide
  intro g
  induction g with
  | zero => intro l l3 n sl SH FI FL FR v s t i code h; exact h.elim
  | succ g ih =>
    intro l l3 n sl SH FI FL FR v s t i code h hQ hq hv hl3 hi1 hi8 hw h5
    have hn176 := hQ.1
    have y1 := hw.2.1
    have y2 := hw.2.2.1
    have kd := s_kd hq hv
    rcases h with ⟨h8, h⟩ | ⟨-, h⟩
    · exfalso
      rw [z8] at h8
      omega
    · rcases h with ⟨h44, h⟩ | ⟨h44, h⟩
      · rw [z44] at h44
        rcases kd with ⟨ht, kd, -, kr, -⟩ | ⟨-, -, kd⟩
        · have ce := ck_e kr
          have hK : K t = 5 ∧ W t = 44 := by omega
          obtain ⟨v4, n4, sl4, SH4, FI4, FL4, FR4, hk, h⟩ := h
          obtain ⟨F4, L4, e, a4, w4⟩ := s_take hk hq hv ht
          cases e
          have q4 := q_a hq a4
          have b4 : b_ct lo SH FI FL FR n SH FI4 FL4 FR := b_lo (b_a hQ a4 (fun h => absurd hv.1 h)) (by omega)
          have key : i < 8 ∨ lp_is (K (t + 1)) (W (t + 1)) = false → RX4_readLocation_80 (GX4_readLocation_39 g) (some a) (some l) l3 n sl SH FI4 FL4 FR v s → ∃ n2 sl2 SH2 F2 L2 R2, v = some a ∧ s = (n2, sl2, SH2, F2, L2, R2) ∧ n ≤ n2 ∧ b_ct lo SH FI FL FR n2 SH2 F2 L2 R2 ∧ ((∃ t2 code2, l_rt K W i t (some (t2, code2)) ∧ t < t2 ∧ s_vw M F2 L2 t2 0 ∧ m_lc F2 L2 R2 SH2 lo n2 a (code ++ code2)) ∨ (l_rt K W i t none ∧ s_ft F2)) := by
            intro hi h
            obtain ⟨v0, n0, sl0, SH0, FI0, FL0, FR0, hp, c2, e2, c3, e3, v3, n3, sl3, SH3, FI3, FL3, FR3, hw3, hK3⟩ := h
            cases e2
            cases e3
            obtain ⟨n1, sl1, SH1, F1, L1, R1, rfl, e, nn, b1, p4, p5, po⟩ := s_place hQ q4 w4 (by decide) (by decide) hp
            cases e
            rw [h_up_eq] at hw3 hK3
            have hQ0 := b1.2.1
            have b5 := b_wR (k := 5) (x := some n) (b_t0 b4 (b_lo b1 (by omega))) y1
            rcases po with ⟨t1, cp, lev, ht1, w1, mp⟩ | ⟨lev, ft⟩
            · have q0 := q_b q4 b1 hn176
              obtain ⟨F3, L3, e, a3, r3⟩ := s_width hn176 q0 w1 hw3
              cases e
              rcases r3 with ⟨wk, w0, x4, w3⟩ | ⟨wk, ft⟩
              · have i8 : i < 8 := by
                  rcases hi with hi | hi
                  · exact hi
                  · exfalso
                    rw [l_pl_is lev] at hi
                    cases hi
                -- what lay below stays
                have g0 : ∀ q k, lo ≤ q → q < n → FI3 q k = FI q k := fun q k z1 z2 => by rw [a3.1 q k (by omega) (by omega), b1.2.2.1 q k (by omega) (by omega), a4.1 q k (by omega)]
                have g1 : ∀ q k, lo ≤ q → q < n → FL3 q k = FL q k := fun q k z1 z2 => by rw [a3.2 q k (by omega), b1.2.2.2.1 q k (by omega) (by omega), a4.2 q k (by omega)]
                have g2 : ∀ q k, lo ≤ q → q < n → ¬ (q = l ∧ k = 5) → h_up FR0 l 5 (some n) q k = FR q k := fun q k z1 z2 z3 => by rw [h_up_x z3, b1.2.2.2.2.1 q k (by omega)]
                have g3 : ∀ q, lo ≤ q → q < n → SH0 q = SH q := fun q z1 z2 => b1.2.2.2.2.2.2 q (by omega)
                have hw2 : m_cw FI3 FL3 (h_up FR0 l 5 (some n)) SH0 lo n a l code := m_cw_fr hw ⟨g0, g1, g2, g3⟩
                have mp2 : m_pl FI3 FL3 (h_up FR0 l 5 (some n)) SH0 n n0 n cp := m_pl_fr mp ⟨fun q k z1 z2 z3 => a3.1 q k (by omega) z3, fun q k z1 z2 => a3.2 q k (by omega), fun q k z1 z2 _ => by rw [h_up_nc (by omega)], fun q z1 z2 => rfl⟩
                have hw4 := m_cw_s hw2 mp2 x4 w0 h_up_eq (Nat.le_refl _)
                have q3 : q_tk K W M FI3 FL3 := q_fr q0 ⟨by funext k; exact a3.1 112 k (by omega) (by omega), a3.1 111 4 (by omega) (by omega), by funext k; exact a3.2 113 k (by omega)⟩
                obtain ⟨n6, sl6, SH6, F6, L6, R6, rfl, rfl, nn6, b6, res⟩ := ih n _ n0 sl0 SH0 FI3 FL3 _ v s (t1 + 2) (i + 1) _ hK3 hQ0 q3 w3 (by rw [i_add hl3 (by decide : ((1 : Int32)).toInt = 1) (by omega) (by omega)]; omega) (by omega) (by omega) hw4 (by rw [h_up_nc (by omega)]; exact p5)
                have b7 := b_t0 (b_t0 b5 (b_wd hQ0 (by omega) (by omega) a3 (fun h => absurd w1.1 h))) b6
                refine ⟨_, _, _, _, _, _, rfl, rfl, by omega, b7, ?_⟩
                rcases res with ⟨t2, code2, r1, r2, r3, r4⟩ | ⟨r1, ft⟩
                · refine Or.inl ⟨t2, _, l_rt_c hK (l_pt_ok i8 lev wk r1), by omega, r3, ?_⟩
                  rw [← List.append_assoc]
                  exact r4
                · exact Or.inr ⟨l_rt_c hK (l_pt_n3 lev wk r1), ft⟩
              · obtain ⟨x, rfl, rfl⟩ := s_lf ft hK3
                exact ⟨_, _, _, _, _, _, rfl, rfl, by omega, b_w4 (b_t0 b5 (b_wd hQ0 (by omega) (by omega) a3 (fun _ => ft.1))), Or.inr ⟨l_rt_c hK (l_pt_n2 lev wk), ft_4 ft⟩⟩
            · obtain ⟨F3, e, a3, ft3⟩ := s_width_f hn176 ft hw3
              cases e
              obtain ⟨x, rfl, rfl⟩ := s_lf ft3 hK3
              exact ⟨_, _, _, _, _, _, rfl, rfl, by omega, b_w4 (b_t0 b5 (b_wd hQ0 (by omega) (by omega) a3 (fun _ => ft3.1))), Or.inr ⟨l_rt_c hK (l_pt_n1 lev), ft_4 ft3⟩⟩
          rcases h with ⟨hi, h⟩ | ⟨hi, h⟩
          · rw [z8] at hi
            rcases h with ⟨hb, h⟩ | ⟨hb, h⟩
            · refine key (Or.inr ?_) h
              rw [s_begins] at hb
              have is := (s_is q4 w4).1
              cases hx : lp_is (K (t + 1)) (W (t + 1)) with
              | false => rfl
              | true => exact absurd (is.mp hx) hb
            · obtain ⟨v8, n8, sl8, SH8, FI8, FL8, FR8, hr, h⟩ := h
              obtain ⟨F8, e, a8, ft⟩ := s_refuse hr (by decide) q4 w4
              cases e
              obtain ⟨n2, sl2, SH2, F2, L2, R2, rfl, rfl, nn9, b9, ft9⟩ := s_80f hQ ft y1 (by omega) h
              exact ⟨_, _, _, _, _, _, rfl, rfl, nn9, b_t0 (b_t0 b4 (b_lo (b_a hQ a8 (fun h => absurd w4.1 h)) (by omega))) b9, Or.inr ⟨l_rt_c hK (l_pt_8 (by omega)), ft9⟩⟩
          · rw [z8] at hi
            exact key (Or.inl (by omega)) h
        · exfalso; omega
      · rw [z44] at h44
        obtain ⟨v9, n9, sl9, SH9, FI9, FL9, FR9, hx, rfl, rfl⟩ := h
        obtain ⟨F9, L9, e, a9, r9⟩ := s_expect (w := 125) hx (by decide) (by decide) hq hv
        cases e
        have b9 : b_ct lo SH FI FL FR n SH FI9 FL9 FR := b_lo (b_a hQ a9 (fun h => absurd hv.1 h)) (by omega)
        have n44 : ¬ (K t = 5 ∧ W t = 44) := by
          intro h
          rcases kd with ⟨-, kd, -, kr, -⟩ | ⟨-, kK, -⟩
          · have ce := ck_e kr
            omega
          · omega
        refine ⟨_, _, _, _, _, _, rfl, rfl, Nat.le_refl _, b_w4 b9, ?_⟩
        rcases r9 with ⟨ht, r, w9⟩ | ⟨r, ft⟩
        · have kr := (hq.2.1 t ht).2.1
          have ce := ck_e kr
          have hm := m_cw_e hw h5
          refine Or.inl ⟨t + 1, [], ⟨0, fun f g _ _ => ?_⟩, by omega, s_low (o := 0) w9 (by decide) (by decide), ?_⟩
          · rw [if_neg n44, if_pos (by omega)]
          · rw [List.append_nil]
            exact m_lc_fr hm ⟨fun q k z1 z2 => by rw [h_up_nc (by omega)]; exact a9.1 q k (by omega), fun q k z1 z2 => a9.2 q k (by omega), fun q k z1 z2 => rfl, fun q z1 z2 => rfl⟩
        · refine Or.inr ⟨⟨0, fun f g _ _ => ?_⟩, ft_4 ft⟩
          have n125 : ¬ (K t = 5 ∧ W t = 125) := by
            intro h
            rcases kd with ⟨k1, -, -, kr, -⟩ | ⟨-, kK, -⟩
            · have ce := ck_e kr
              have := r k1
              omega
            · omega
          rw [if_neg n44, if_neg n125]
/-- lp_lc with fuel enough -/
def l_lc (K W : Nat → Int) (t : Nat) (r : Option (Nat × List Int)) : Prop := ∃ F0, ∀ f, F0 ≤ f → lp_lc K W f t = r
theorem s_location {n sl : Nat} {SH : Nat → Nat × Nat} {FI : Nat → Nat → Int32} {FL : Nat → Nat → Int64} {FR : Nat → Nat → Option Nat} {v : Option Nat} {s : hS} {t : Nat} (hQ : h_S n SH) (hq : q_tk K W M FI FL) (hv : s_vw M FI FL t 0) (h : RX4_readLocation n sl SH FI FL FR v s) : ∃ n2 sl2 SH2 F2 L2 R2, v = some n ∧ s = (n2, sl2, SH2, F2, L2, R2) ∧ n < n2 ∧ b_ct n SH FI FL FR n2 SH2 F2 L2 R2 ∧ ((∃ t2 code, l_lc K W t (some (t2, code)) ∧ t < t2 ∧ s_vw M F2 L2 t2 0 ∧ m_lc F2 L2 R2 SH2 n n2 n code) ∨ (l_lc K W t none ∧ s_ft F2)) := by
  have h176 := hQ.1
  have z123 : ((123 : Int32)).toInt = 123 := by decide
  have kd := s_kd hq hv
  rcases h with ⟨hc, h⟩ | ⟨hc, h⟩
  · rw [z123] at hc
    rcases kd with ⟨ht, kd, -, kr, -⟩ | ⟨-, -, kd⟩
    · have ce := ck_e kr
      have hK : K t = 5 ∧ W t = 123 := by omega
      have hlc : ∀ r, l_pt K W 0 (t + 1) r → l_lc K W t r := fun r ⟨a, h⟩ => ⟨a, fun f hf => by unfold lp_lc; rw [if_pos hK]; exact h f 20 hf (by decide)⟩
      obtain ⟨v1, n1, sl1, SH1, FI1, FL1, FR1, hr, h⟩ := h
      obtain ⟨F1, e, a1, r1⟩ := s_raise hr hq hv (by decide)
      cases e
      rcases r1 with ⟨-, x1, w1⟩ | ⟨ho, -, -⟩
      · rcases h with ⟨hz, -⟩ | ⟨-, h⟩
        · exfalso; omega
        · obtain ⟨v4, n4, sl4, SH4, FI4, FL4, FR4, hk, v5, n5, sl5, SH5, FI5, FL5, FR5, hp, v6, n6, sl6, SH6, FI6, FL6, FR6, hw, h⟩ := h
          have q1 := q_a hq a1
          obtain ⟨F4, L4, e, a4, w4⟩ := s_take hk q1 w1 ht
          cases e
          have q4 := q_a q1 a4
          have b4 := b_tr (b_a (FR := FR) hQ a1 (fun h => absurd hv.1 h)) (b_a hQ a4 (fun h => absurd w1.1 h))
          obtain ⟨n2, sl2, SH2, F2, L2, R2, rfl, e, nn, b1, p4, p5, po⟩ := s_place hQ q4 w4 (by decide) (by decide) hp
          cases e
          have hQ5 := b1.2.1
          have b5 := b_tr b4 b1
          obtain ⟨gl, h⟩ := h
          rcases po with ⟨t1, cp, lev, ht1, w5, mp⟩ | ⟨lev, ft⟩
          · have q5 := q_b q4 b1 h176
            obtain ⟨F6, L6, e, a6, r6⟩ := s_width h176 q5 w5 hw
            cases e
            have b6 := b_t0 b5 (b_wd (FR := FR5) hQ5 (by omega) (Nat.le_refl n) a6 (fun h => absurd w5.1 h))
            rcases r6 with ⟨wk, w0, x4, w6⟩ | ⟨wk, ft⟩
            · have mp2 : m_pl FI6 FL6 FR5 SH5 n n5 n cp := m_pl_fr mp ⟨fun q k z1 z2 z3 => a6.1 q k (by omega) z3, fun q k z1 z2 => a6.2 q k (by omega), fun q k z1 z2 _ => rfl, fun q z1 z2 => rfl⟩
              have q6 : q_tk K W M FI6 FL6 := q_fr q5 ⟨by funext k; exact a6.1 112 k (by omega) (by omega), a6.1 111 4 (by omega) (by omega), by funext k; exact a6.2 113 k (by omega)⟩
              obtain ⟨n7, sl7, SH7, F7, L7, R7, rfl, rfl, nn7, b7, res⟩ := s_lp h176 gl n _ n5 sl5 SH5 FI6 FL6 FR5 v s (t1 + 2) 1 _ h hQ5 q6 w6 (by decide) (by decide) (by decide) (m_cw_1 mp2 x4 w0) p5
              refine ⟨_, _, _, _, _, _, rfl, rfl, by omega, b_t0 b6 b7, ?_⟩
              rcases res with ⟨t2, code2, r1, r2, r3, r4⟩ | ⟨r1, ft⟩
              · exact Or.inl ⟨t2, _, hlc _ (l_pt_ok (by decide) lev wk r1), by omega, r3, r4⟩
              · exact Or.inr ⟨hlc _ (l_pt_n3 lev wk r1), ft⟩
            · obtain ⟨x, rfl, rfl⟩ := s_lf ft h
              exact ⟨_, _, _, _, _, _, rfl, rfl, nn, b_w4 b6, Or.inr ⟨hlc _ (l_pt_n2 lev wk), ft_4 ft⟩⟩
          · obtain ⟨F6, e, a6, ft6⟩ := s_width_f h176 ft hw
            cases e
            obtain ⟨x, rfl, rfl⟩ := s_lf ft6 h
            exact ⟨_, _, _, _, _, _, rfl, rfl, nn, b_w4 (b_t0 b5 (b_wd (FR := FR5) hQ5 (by omega) (Nat.le_refl n) a6 (fun _ => ft6.1))), Or.inr ⟨hlc _ (l_pt_n1 lev), ft_4 ft6⟩⟩
      · exfalso; omega
    · exfalso; omega
  · rw [z123] at hc
    have nK : ¬ (K t = 5 ∧ W t = 123) := by
      intro h
      rcases kd with ⟨-, kd, -, kr, -⟩ | ⟨-, kK, -⟩
      · have ce := ck_e kr
        omega
      · omega
    obtain ⟨v7, n7, sl7, SH7, FI7, FL7, FR7, hp, rfl, rfl⟩ := h
    obtain ⟨n2, sl2, SH2, F2, L2, R2, rfl, e, nn, b1, p4, p5, po⟩ := s_place hQ hq hv (by decide) (by decide) hp
    cases e
    refine ⟨_, _, _, _, _, _, rfl, rfl, nn, b1, ?_⟩
    rcases po with ⟨t1, cp, ⟨a, lev⟩, ht1, w5, mp⟩ | ⟨⟨a, lev⟩, ft⟩
    · exact Or.inl ⟨t1, cp, ⟨a, fun f hf => by unfold lp_lc; rw [if_neg nK]; exact lev f hf⟩, ht1, w5, m_lc_1 mp p4 p5⟩
    · exact Or.inr ⟨⟨a, fun f hf => by unfold lp_lc; rw [if_neg nK]; exact lev f hf⟩, ft⟩
end SM
