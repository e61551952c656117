/-! THE CLASS'S PARSER: rows. -/
def r_ok (K W : Nat → Int) (m t : Nat) : Prop := K t = 3 ∧ m < 8 ∧ K (t + 1) = 5 ∧ W (t + 1) = 256 ∧ K (t + 2) = 3 ∧ W t < W (t + 2) ∧ K (t + 3) = 5 ∧ W (t + 3) = 58
abbrev r_Q : Type := Int × Int × List Int
def rw_fl (Q : List r_Q) : List Int := (Q.map (fun q => lc_by q.1 8 ++ (lc_by q.2.1 8 ++ (lc_by (q.2.2.length : Int) 2 ++ q.2.2)))).flatten
def rw_b (Q : List r_Q) : Bool := Q.any (fun q => decide (300 < q.2.2.length))
def l_rw (K W : Nat → Int) (m t : Nat) (r : Option (Nat × Nat × List Int × Bool)) : Prop := ∃ F0, ∀ f g, F0 ≤ f → 20 ≤ g + m → lp_rw K W f g m t = r
/-- behind a row -/
def l_rr (K W : Nat → Int) (m t : Nat) (r : Option (Nat × Nat × List Int × Bool)) : Prop := ∃ F0, ∀ f g, F0 ≤ f → 20 ≤ g + m → (if K t = 5 ∧ W t = 44 then lp_rw K W f g m (t + 1) else some (t, m, [], false)) = r
section LR
variable {K W : Nat → Int} {m t t1 t2 m2 : Nat} {c c2 : List Int} {b2 : Bool}
theorem l_rw_ok (h : r_ok K W m t) (hl : l_lc K W (t + 4) (some (t1, c))) (hr : l_rr K W (m + 1) t1 (some (t2, m2, c2, b2))) : l_rw K W m t (some (t2, m2, lc_by (W t) 8 ++ (lc_by (W (t + 2)) 8 ++ (lc_by (c.length : Int) 2 ++ (c ++ c2))), decide (300 < c.length) || b2)) := by
  unfold r_ok at h
  obtain ⟨a, hl⟩ := hl
  obtain ⟨b, hr⟩ := hr
  have hm := h.2.1
  refine ⟨a + b, fun f g hf hg => ?_⟩
  cases g with
  | zero => omega
  | succ g =>
    have hr := hr f g (by omega) (by omega)
    rw [lp_rw, if_pos h, hl f (by omega)]
    dsimp only
    by_cases hc : K t1 = 5 ∧ W t1 = 44
    · rw [if_pos hc] at hr ⊢
      rw [hr]
    · rw [if_neg hc] at hr ⊢
      cases hr
      rw [List.append_nil, Bool.or_false]
theorem l_rw_n (h : ¬ r_ok K W m t) : l_rw K W m t none := by
  unfold r_ok at h
  refine ⟨0, fun f g hf hg => ?_⟩
  cases g with
  | zero => rw [lp_rw]
  | succ g => rw [lp_rw, if_neg h]
theorem l_rw_n1 (h : r_ok K W m t) (hl : l_lc K W (t + 4) none) : l_rw K W m t none := by
  unfold r_ok at h
  obtain ⟨a, hl⟩ := hl
  refine ⟨a, fun f g hf hg => ?_⟩
  cases g with
  | zero => rw [lp_rw]
  | succ g => rw [lp_rw, if_pos h, hl f hf]
theorem l_rw_n2 (h : r_ok K W m t) (hl : l_lc K W (t + 4) (some (t1, c))) (hr : l_rr K W (m + 1) t1 none) : l_rw K W m t none := by
  unfold r_ok at h
  obtain ⟨a, hl⟩ := hl
  obtain ⟨b, hr⟩ := hr
  refine ⟨a + b, fun f g hf hg => ?_⟩
  cases g with
  | zero => rw [lp_rw]
  | succ g =>
    have hr := hr f g (by omega) (by omega)
    rw [lp_rw, if_pos h, hl f (by omega)]
    dsimp only
    by_cases hc : K t1 = 5 ∧ W t1 = 44
    · rw [if_pos hc] at hr ⊢
      rw [hr]
    · rw [if_neg hc] at hr
      cases hr
theorem l_rr_c {r : Option (Nat × Nat × List Int × Bool)} (hc : K t = 5 ∧ W t = 44) (h : l_rw K W m (t + 1) r) : l_rr K W m t r := by
  obtain ⟨a, h⟩ := h
  exact ⟨a, fun f g hf hg => by rw [if_pos hc]; exact h f g hf hg⟩
theorem l_rr_e (hc : ¬ (K t = 5 ∧ W t = 44)) : l_rr K W m t (some (t, m, [], false)) := ⟨0, fun f g _ _ => by rw [if_neg hc]⟩
end LR
section SR
variable {K W : Nat → Int} {M : Nat} {n sl : Nat} {SH : Nat → Nat × Nat} {FI : Nat → Nat → Int32} {FL : Nat → Nat → Int64} {FR : Nat → Nat → Option Nat} {s : hS} {t : Nat} {o : Int}
/-- what a range changes -/
def a_rg (x m : Nat) (FI F2 : Nat → Nat → Int32) (FL L2 : Nat → Nat → Int64) : Prop := (∀ q k, ¬ (q = 110 ∧ 4 ≤ k ∧ k ≤ 8) → ¬ (q = x ∧ k = 5) → F2 q k = FI q k) ∧ (∀ q k, ¬ (q = 110 ∧ k = 9) → ¬ ((q = x + 1 ∨ q = x + 2) ∧ k = m) → L2 q k = FL q k)
theorem s_range_f {x : Nat} {a2 : Int32} {u : Unit} (hf : s_ft FI) (h : RX4_readRange (some x) a2 n sl SH FI FL FR u s) : s = (n, sl, SH, FI, FL, FR) := by
  rcases h with ⟨h5, -⟩ | ⟨-, h⟩
  · exfalso
    rw [hf.2] at h5
    revert h5
    decide
  · obtain ⟨v27, n27, sl27, SH27, FI27, FL27, FR27, hr, -, rfl⟩ := h
    exact s_refuse_f hr hf.1
theorem s_wL2 {c k : Nat} {x : Int64} (hc : 176 ≤ c) (hf : s_ft FI) {u : Unit} {a : Int32} (h : RX4_expect a n sl SH FI (h_up FL c k x) FR u s) : s = (n, sl, SH, FI, h_up FL c k x, FR) := s_expect_f h hf.1
theorem s_range {x m : Nat} {a2 : Int32} {u : Unit} (hx : 176 ≤ x) (ha : a2.toInt = m) (h2 : FR x 2 = some (x + 1)) (h3 : FR x 3 = some (x + 2)) (hq : q_tk K W M FI FL) (hv : s_vw M FI FL t o) (h : RX4_readRange (some x) a2 n sl SH FI FL FR u s) : ∃ F2 L2, s = (n, sl, SH, F2, L2, FR) ∧ a_rg x m FI F2 FL L2 ∧ ((r_ok K W m t ∧ (F2 x 5).toInt = ((m + 1 : Nat) : Int) ∧ (L2 (x + 1) m).toInt = W t ∧ (L2 (x + 2) m).toInt = W (t + 2) ∧ 0 ≤ W t ∧ 0 ≤ W (t + 2) ∧ s_vw M F2 L2 (t + 4) o) ∨ (¬ r_ok K W m t ∧ s_ft F2)) := by
  have z5 : ((5 : Int32)).toInt = 5 := by decide
  have z8 : ((8 : Int32)).toInt = 8 := by decide
  have kd := s_kd hq hv
  rcases h with ⟨h5, h⟩ | ⟨h5, h⟩
  · rw [z5] at h5
    rcases kd with ⟨ht, kd, -, kr, k3, -⟩ | ⟨-, -, kd⟩
    · have ce := ck_e kr
      have hK : K t = 3 := by omega
      obtain ⟨j1, j2, j3⟩ := k3 hK
      rcases h with ⟨h0, -⟩ | ⟨-, h⟩
      · exfalso; omega
      · rcases h with ⟨h8, h⟩ | ⟨h8, h⟩
        · rw [z8] at h8
          obtain ⟨c5, e5, c6, e6, c7, e7, -, v7, n7, sl7, SH7, FI7, FL7, FR7, hk, v8, n8, sl8, SH8, FI8, FL8, FR8, hx8, h⟩ := h
          cases e5
          cases e6
          rw [h2] at e7
          cases e7
          have em : a2.toInt.toNat = m := by omega
          rw [em] at hk
          obtain ⟨q1, w1⟩ := s_wL (c := x + 1) (k := m) (x := FL 110 9) (by omega) (s_wI (c := x) (k := 5) (x := a2 + (1 : Int32)) hx ⟨hq, hv⟩)
          obtain ⟨F7, L7, e, a7, w7⟩ := s_take hk q1 w1 ht
          cases e
          have q7 := q_a q1 a7
          obtain ⟨F8, L8, e, a8, r8⟩ := s_expect (w := 17) hx8 (by decide) (by decide) q7 w7
          cases e
          have q8 := q_a q7 a8
          have f5 : (FI8 x 5).toInt = ((m + 1 : Nat) : Int) := by rw [a8.1 x 5 (by omega), a7.1 x 5 (by omega), h_up_eq, i_add ha (by decide : ((1 : Int32)).toInt = 1) (by omega) (by omega)]; omega
          have l1 : (FL8 (x + 1) m).toInt = W t := by rw [a8.2 (x + 1) m (by omega), a7.2 (x + 1) m (by omega), h_up_eq]; exact j1
          have g0 : ∀ q k, ¬ (q = 110 ∧ 4 ≤ k ∧ k ≤ 8) → ¬ (q = x ∧ k = 5) → FI8 q k = FI q k := fun q k y1 y2 => by rw [a8.1 q k y1, a7.1 q k y1, h_up_x y2]
          have g1 : ∀ q k, ¬ (q = 110 ∧ k = 9) → ¬ ((q = x + 1 ∨ q = x + 2) ∧ k = m) → FL8 q k = FL q k := fun q k y1 y2 => by rw [a8.2 q k y1, a7.2 q k y1, h_up_x (by omega)]
          rcases r8 with ⟨ht8, r8, w8⟩ | ⟨r8, ft⟩
          · have kr1 := (q7.2.1 (t + 1) ht8).2.1
            have ce1 := ck_e kr1
            have hK1 : K (t + 1) = 5 ∧ W (t + 1) = 256 := by omega
            have kd2 := s_kd q8 w8
            rcases h with ⟨h5', h⟩ | ⟨h5', h⟩
            · rw [z5] at h5'
              rcases kd2 with ⟨ht9, kd2, -, kr2, k32, -⟩ | ⟨-, -, kd2⟩
              · have ce2 := ck_e kr2
                rw [show t + 1 + 1 = t + 2 from rfl] at ce2 kd2 k32
                have hK2 : K (t + 2) = 3 := by omega
                obtain ⟨i1, i2, i3⟩ := k32 hK2
                obtain ⟨c11, e11, c12, e12, -, h⟩ := h
                cases e11
                rw [h2] at e12
                cases e12
                rw [em, l1] at h
                rcases h with ⟨hlt, h⟩ | ⟨hlt, h⟩
                · have hlt : W t < W (t + 2) := by rw [← i1]; exact hlt
                  obtain ⟨c14, e14, c15, e15, -, v15, n15, sl15, SH15, FI15, FL15, FR15, hx15, v16, n16, sl16, SH16, FI16, FL16, FR16, hx16, -, rfl⟩ := h
                  cases e14
                  rw [h3] at e15
                  cases e15
                  obtain ⟨q9, w9⟩ := s_wL (c := x + 2) (k := m) (x := FL8 110 9) (by omega) ⟨q8, w8⟩
                  obtain ⟨F15, L15, e, a15, r15⟩ := s_expect (w := 5) hx15 (by decide) (by decide) q9 w9
                  cases e
                  have q15 := q_a q9 a15
                  rcases r15 with ⟨ht15, -, w15⟩ | ⟨r15, -⟩
                  · obtain ⟨F16, L16, e, a16, r16⟩ := s_expect (w := 58) hx16 (by decide) (by decide) q15 w15
                    cases e
                    refine ⟨_, _, rfl, ⟨fun q k y1 y2 => by rw [a16.1 q k y1, a15.1 q k y1]; exact g0 q k y1 y2, fun q k y1 y2 => by rw [a16.2 q k y1, a15.2 q k y1, h_up_x (by omega)]; exact g1 q k y1 y2⟩, ?_⟩
                    rcases r16 with ⟨ht16, r16, w16⟩ | ⟨r16, ft⟩
                    · have kr3 := (q15.2.1 (t + 1 + 1 + 1) ht16).2.1
                      have ce3 := ck_e kr3
                      have hK3 : K (t + 3) = 5 ∧ W (t + 3) = 58 := by
                        have e : t + 1 + 1 + 1 = t + 3 := rfl
                        rw [e] at ce3 r16
                        omega
                      refine Or.inl ⟨⟨hK, by omega, hK1.1, hK1.2, hK2, hlt, hK3.1, hK3.2⟩, ?_, ?_, ?_, j2, i2, w16⟩
                      · rw [a16.1 x 5 (by omega), a15.1 x 5 (by omega)]; exact f5
                      · rw [a16.2 (x + 1) m (by omega), a15.2 (x + 1) m (by omega), h_up_x (by omega)]; exact l1
                      · rw [a16.2 (x + 2) m (by omega), a15.2 (x + 2) m (by omega), h_up_eq]; exact i1
                    · refine Or.inr ⟨fun hk => ?_, ft⟩
                      rcases s_kd q15 w15 with ⟨k1, -, -, kr3, -⟩ | ⟨-, k1, -⟩
                      · have ce3 := ck_e kr3
                        have r16 := r16 k1
                        have e : t + 1 + 1 + 1 = t + 3 := rfl
                        rw [e] at ce3 r16
                        have := hk.2.2.2.2.2.2
                        omega
                      · have e : t + 1 + 1 + 1 = t + 3 := rfl
                        rw [e] at k1
                        have := hk.2.2.2.2.2.2
                        omega
                  · exfalso
                    have r15 := r15 ht9
                    rw [show t + 1 + 1 = t + 2 from rfl] at r15
                    omega
                · have hlt : ¬ W t < W (t + 2) := by rw [← i1]; exact hlt
                  obtain ⟨v17, n17, sl17, SH17, FI17, FL17, FR17, hr, c19, e19, c20, e20, -, v20, n20, sl20, SH20, FI20, FL20, FR20, hx20, v21, n21, sl21, SH21, FI21, FL21, FR21, hx21, -, rfl⟩ := h
                  obtain ⟨F17, e, a17, ft⟩ := s_refuse hr (by decide) q8 w8
                  cases e
                  cases e19
                  rw [h3] at e20
                  cases e20
                  have e := s_expect_f hx20 ft.1
                  cases e
                  have e := s_expect_f hx21 ft.1
                  cases e
                  exact ⟨_, _, rfl, ⟨fun q k y1 y2 => by rw [a17.1 q k y1]; exact g0 q k y1 y2, fun q k y1 y2 => by rw [h_up_x (by omega)]; exact g1 q k y1 y2⟩, Or.inr ⟨fun hk => hlt hk.2.2.2.2.2.1, ft⟩⟩
              · exfalso; omega
            · rw [z5] at h5'
              have n3 : K (t + 2) ≠ 3 := by
                rcases kd2 with ⟨-, kd2, -, kr2, -⟩ | ⟨-, kK, -⟩
                · have ce2 := ck_e kr2
                  have e : t + 1 + 1 = t + 2 := rfl
                  rw [e] at ce2 kd2
                  omega
                · have e : t + 1 + 1 = t + 2 := rfl
                  rw [e] at kK
                  omega
              obtain ⟨c23, e23, c24, e24, -, v24, n24, sl24, SH24, FI24, FL24, FR24, hx24, v25, n25, sl25, SH25, FI25, FL25, FR25, hx25, -, rfl⟩ := h
              cases e23
              rw [h3] at e24
              cases e24
              rw [em] at hx24
              obtain ⟨q9, w9⟩ := s_wL (c := x + 2) (k := m) (x := FL8 110 9) (by omega) ⟨q8, w8⟩
              obtain ⟨F24, L24, e, a24, r24⟩ := s_expect (w := 5) hx24 (by decide) (by decide) q9 w9
              cases e
              rcases r24 with ⟨k1, r24, -⟩ | ⟨-, ft⟩
              · exfalso
                rcases kd2 with ⟨-, kd2, -⟩ | ⟨e, -⟩
                · omega
                · omega
              · have e := s_expect_f hx25 ft.1
                cases e
                exact ⟨_, _, rfl, ⟨fun q k y1 y2 => by rw [a24.1 q k y1]; exact g0 q k y1 y2, fun q k y1 y2 => by rw [a24.2 q k y1, h_up_x (by omega)]; exact g1 q k y1 y2⟩, Or.inr ⟨fun hk => n3 hk.2.2.2.2.1, ft⟩⟩
          · have nk : ¬ r_ok K W m t := by
              intro hk
              rcases s_kd q7 w7 with ⟨k1, -, -, kr1, -⟩ | ⟨-, k1, -⟩
              · have ce1 := ck_e kr1
                have := r8 k1
                have := hk.2.2.1
                have := hk.2.2.2.1
                omega
              · have := hk.2.2.1
                omega
            rcases h with ⟨h5', -⟩ | ⟨-, h⟩
            · exfalso
              rw [ft.2] at h5'
              revert h5'
              decide
            · obtain ⟨c23, e23, c24, e24, -, v24, n24, sl24, SH24, FI24, FL24, FR24, hx24, v25, n25, sl25, SH25, FI25, FL25, FR25, hx25, -, rfl⟩ := h
              cases e23
              rw [h3] at e24
              cases e24
              have e := s_expect_f hx24 ft.1
              cases e
              have e := s_expect_f hx25 ft.1
              cases e
              rw [em]
              exact ⟨_, _, rfl, ⟨g0, fun q k y1 y2 => by rw [h_up_x (by omega)]; exact g1 q k y1 y2⟩, Or.inr ⟨nk, ft⟩⟩
        · rw [z8] at h8
          obtain ⟨v26, n26, sl26, SH26, FI26, FL26, FR26, hr, -, rfl⟩ := h
          obtain ⟨F3, e, a3, ft⟩ := s_refuse hr (by decide) hq hv
          exact ⟨_, _, e, ⟨fun q k y1 _ => a3.1 q k y1, fun _ _ _ _ => rfl⟩, Or.inr ⟨fun hk => by have := hk.2.1; omega, ft⟩⟩
    · exfalso; omega
  · rw [z5] at h5
    obtain ⟨v27, n27, sl27, SH27, FI27, FL27, FR27, hr, -, rfl⟩ := h
    obtain ⟨F3, e, a3, ft⟩ := s_refuse hr (by decide) hq hv
    refine ⟨_, _, e, ⟨fun q k y1 _ => a3.1 q k y1, fun _ _ _ _ => rfl⟩, Or.inr ⟨fun hk => ?_, ft⟩⟩
    have := hk.1
    rcases kd with ⟨-, kd, -, kr, -⟩ | ⟨-, kK, -⟩
    · have ce := ck_e kr
      omega
    · omega
end SR
