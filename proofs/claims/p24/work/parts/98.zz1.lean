/-! THE CLASS'S PARSER: a declaration's body. -/
theorem lp_rw_m {K W : Nat → Int} {f : Nat} : ∀ (g m t t1 m1 : Nat) (c : List Int) (b : Bool), lp_rw K W f g m t = some (t1, m1, c, b) → m < m1 ∧ m1 ≤ 8 := by
  intro g
  induction g with
  | zero => intro m t t1 m1 c b h; rw [lp_rw] at h; cases h
  | succ g ih =>
    intro m t t1 m1 c b h
    rw [lp_rw] at h
    by_cases h1 : K t = 3 ∧ m < 8 ∧ K (t + 1) = 5 ∧ W (t + 1) = 256 ∧ K (t + 2) = 3 ∧ W t < W (t + 2) ∧ K (t + 3) = 5 ∧ W (t + 3) = 58
    · rw [if_pos h1] at h
      cases e : lp_lc K W f (t + 4) with
      | none => rw [e] at h; cases h
      | some x =>
        obtain ⟨t2, c2⟩ := x
        rw [e] at h
        dsimp only at h
        by_cases h2 : K t2 = 5 ∧ W t2 = 44
        · rw [if_pos h2] at h
          cases e2 : lp_rw K W f g (m + 1) (t2 + 1) with
          | none => rw [e2] at h; cases h
          | some y =>
            obtain ⟨t3, m3, c3, b3⟩ := y
            rw [e2] at h
            dsimp only at h
            have e3 : m3 = m1 := congrArg (fun z => z.2.1) (Option.some.inj h)
            have := ih (m + 1) (t2 + 1) t3 m3 c3 b3 e2
            omega
        · rw [if_neg h2] at h
          have e3 : m + 1 = m1 := congrArg (fun z => z.2.1) (Option.some.inj h)
          omega
    · rw [if_neg h1] at h
      cases h
theorem rw_mem {Q : List r_Q} : ∀ (j : Nat) (q : r_Q), Q[j]? = some q → q.2.2.length ≤ (rw_fl Q).length := by
  induction Q with
  | nil => intro j q h; simp at h
  | cons a Q ih =>
    intro j q h
    rw [rw_fl_c, List.length_append, List.length_append, List.length_append, List.length_append]
    cases j with
    | zero =>
      rw [List.getElem?_cons_zero] at h
      cases h
      omega
    | succ j =>
      rw [List.getElem?_cons_succ] at h
      have := ih j q h
      omega
/-- what a variable x says, in the cells below n -/
def v_is (F : Nat → Nat → Int32) (L : Nat → Nat → Int64) (R : Nat → Nat → Option Nat) (SH : Nat → Nat × Nat) (n x m : Nat) (C : List Int) (b : Bool) : Prop := (m = 0 ∧ (F x 5).toInt = 0 ∧ b = decide (300 < C.length) ∧ ∃ a lo hi, x + 5 ≤ lo ∧ hi ≤ n ∧ R (x + 3) 0 = some a ∧ m_lc F L R SH lo hi a C) ∨ (∃ Q : List r_Q, m = Q.length ∧ 1 ≤ m ∧ m ≤ 8 ∧ (F x 5).toInt = (m : Int) ∧ C = rw_fl Q ++ (lc_by 0 8 ++ lc_by 0 8) ∧ b = rw_b Q ∧ v_in F L R SH n x Q)
/-- the same in all that agree from x on -/
theorem v_is_fr {F F2 : Nat → Nat → Int32} {L L2 : Nat → Nat → Int64} {R R2 : Nat → Nat → Option Nat} {SH S2 : Nat → Nat × Nat} {n n2 x m : Nat} {C : List Int} {b : Bool} (h : v_is F L R SH n x m C b) (hx : x + 5 ≤ n) (h0 : ∀ q k, x ≤ q → q < n → F2 q k = F q k) (h1 : ∀ q k, x ≤ q → q < n → L2 q k = L q k) (h2 : ∀ q k, x ≤ q → q < n → ¬ (q = x ∧ k = 6) → R2 q k = R q k) (h3 : ∀ q, x ≤ q → q < n → S2 q = SH q) (hn : n ≤ n2) : v_is F2 L2 R2 S2 n2 x m C b := by
  rcases h with ⟨y1, y2, y3, a, lo, hi, y4, y5, y6, y7⟩ | ⟨Q, y1, y2, y3, y4, y5, y6, y7⟩
  · exact Or.inl ⟨y1, by rw [h0 x 5 (Nat.le_refl _) (by omega)]; exact y2, y3, a, lo, hi, y4, by omega, by rw [h2 (x + 3) 0 (by omega) (by omega) (by omega)]; exact y6, m_lc_fr y7 ⟨fun p k g1 g2 => h0 p k (by omega) (by omega), fun p k g1 g2 => h1 p k (by omega) (by omega), fun p k g1 g2 => h2 p k (by omega) (by omega) (by omega), fun p g1 g2 => h3 p (by omega) (by omega)⟩⟩
  · exact Or.inr ⟨Q, y1, y2, y3, by rw [h0 x 5 (Nat.le_refl _) (by omega)]; exact y4, y5, y6, v_in_fr y7 (fun p k g1 g2 => h0 p k (by omega) (by omega)) (fun p k g1 g2 => h1 p k (by omega) (by omega)) (fun p k g1 g2 => h2 p k (by omega) (by omega) (by omega)) (fun p g1 g2 => h3 p (by omega) (by omega)) (fun j _ => ⟨h1 (x + 1) j (by omega) (by omega), h1 (x + 2) j (by omega) (by omega), h2 (x + 3) j (by omega) (by omega) (by omega)⟩) hn⟩
/-- so the coder writes it -/
theorem v_is_bd {F : Nat → Nat → Int32} {L : Nat → Nat → Int64} {R : Nat → Nat → Option Nat} {SH : Nat → Nat × Nat} {n x m : Nat} {C : List Int} {b : Bool} (h : v_is F L R SH n x m C b) (hz : C.length ≤ 100000) : v_bd F L R SH x m C b := by
  have al : ∀ lo hi, m_al lo hi F L R SH F L R SH := fun lo hi => ⟨fun _ _ _ _ => rfl, fun _ _ _ _ => rfl, fun _ _ _ _ => rfl, fun _ _ _ => rfl⟩
  rcases h with ⟨y1, y2, y3, a, lo, hi, -, -, y6, y7⟩ | ⟨Q, y1, y2, y3, y4, y5, y6, y7⟩
  · obtain ⟨f, hf⟩ := y7.2 F L R SH (al _ _)
    exact Or.inl ⟨y1, y2, hz, y3, a, f, y6, hf⟩
  · refine Or.inr ⟨Q, y1, y2, y3, y4, y5, y6, fun j q hj => ?_⟩
    obtain ⟨z1, z2, z3, z4, a, lo, hi, -, -, z7, z8⟩ := y7 j q hj
    obtain ⟨f, hf⟩ := z8.2 F L R SH (al _ _)
    have hl := rw_mem j q hj
    rw [y5, List.length_append] at hz
    exact ⟨z1, z2, z3, z4, by omega, a, f, z7, hf⟩
def l_bd (K W : Nat → Int) (t : Nat) (r : Option (Nat × Nat × List Int × Bool)) : Prop := ∃ F0, ∀ f, F0 ≤ f → lp_bd K W f t = r
section SBD
variable {K W : Nat → Int} {M : Nat} {n sl : Nat} {SH : Nat → Nat × Nat} {FI : Nat → Nat → Int32} {FL : Nat → Nat → Int64} {FR : Nat → Nat → Option Nat} {s : hS} {t : Nat}
/-- what stands behind = -/
def s_bdP (x n sl : Nat) (SH : Nat → Nat × Nat) (FI : Nat → Nat → Int32) (FL : Nat → Nat → Int64) (FR : Nat → Nat → Option Nat) : Unit → hS → Prop := (P_if ((FI 110 8).toInt = ((5 : Int32)).toInt) (P_bi (RX4_readRows (some x) n sl SH FI FL FR) (fun v13 n13 sl13 SH13 FI13 FL13 FR13 => (P_bi (RX4_expect ((59 : Int32)) n13 sl13 SH13 FI13 FL13 FR13) (fun v14 n14 sl14 SH14 FI14 FL14 FR14 => (P_ret () (n14, sl14, SH14, FI14, FL14, FR14)))))) (P_bi (RX4_readLocation n sl SH FI FL FR) (fun v15 n15 sl15 SH15 FI15 FL15 FR15 => (P_sm (FR x 4) (fun c17 => P_and (p_in ((0 : Int32)) (SH15 c17).2 ∧ ∃ v, v15 = some v) (P_bi (RX4_expect ((59 : Int32)) n15 sl15 SH15 FI15 FL15 (h_up FR15 c17 0 (v15))) (fun v17 n17 sl17 SH17 FI17 FL17 FR17 => (P_ret () (n17, sl17, SH17, FI17, FL17, FR17)))))))))
theorem s_body_f {x : Nat} {u : Unit} (hQ : h_S n SH) (hn : x + 5 ≤ n) (hf : s_ft FI) (h4 : FR x 4 = some (x + 3)) (h : s_bdP x n sl SH FI FL FR u s) : ∃ n2 sl2 SH2 F2 L2 R2, s = (n2, sl2, SH2, F2, L2, R2) ∧ n ≤ n2 ∧ b_ct x SH FI FL FR n2 SH2 F2 L2 R2 ∧ s_ft F2 := by
  rcases h with ⟨h5, -⟩ | ⟨-, h⟩
  · exfalso
    rw [hf.2] at h5
    revert h5
    decide
  · obtain ⟨v15, n15, sl15, SH15, FI15, FL15, FR15, hm, c17, e17, -, v17, n17, sl17, SH17, FI17, FL17, FR17, hx, -, rfl⟩ := h
    rw [h4] at e17
    cases e17
    obtain ⟨n2, sl2, SH2, F2, L2, R2, rfl, e, nn, b, ft⟩ := s_location_f hQ hf hm
    cases e
    have e := s_expect_f hx ft.1
    cases e
    exact ⟨_, _, _, _, _, _, rfl, by omega, b_wR (b_lo b (by omega)) (by omega), ft⟩
theorem s_body {x : Nat} {u : Unit} (hx : 176 ≤ x) (hQ : h_S n SH) (hn : x + 5 ≤ n) (hq : q_tk K W M FI FL) (hv : s_vw M FI FL t 0) (h2 : FR x 2 = some (x + 1)) (h3 : FR x 3 = some (x + 2)) (h4 : FR x 4 = some (x + 3)) (h5 : (FI x 5).toInt = 0) (h : s_bdP x n sl SH FI FL FR u s) : ∃ n2 sl2 SH2 F2 L2 R2, s = (n2, sl2, SH2, F2, L2, R2) ∧ n ≤ n2 ∧ b_ct x SH FI FL FR n2 SH2 F2 L2 R2 ∧ (∀ k, R2 x k = FR x k) ∧ ((∃ t1 m c b, l_bd K W t (some (t1, m, c, b)) ∧ K t1 = 5 ∧ W t1 = 59 ∧ t < t1 ∧ s_vw M F2 L2 (t1 + 1) 0 ∧ v_is F2 L2 R2 SH2 n2 x m c b) ∨ ((l_bd K W t none ∨ ∃ t1 m c b, l_bd K W t (some (t1, m, c, b)) ∧ ¬ (K t1 = 5 ∧ W t1 = 59)) ∧ s_ft F2)) := by
  have z5 : ((5 : Int32)).toInt = 5 := by decide
  have kd := s_kd hq hv
  have ex : ∀ {n1 sl1 : Nat} {SH1 : Nat → Nat × Nat} {F1 : Nat → Nat → Int32} {L1 : Nat → Nat → Int64} {R1 : Nat → Nat → Option Nat} {t1 : Nat} {u1 : Unit} {s1 : hS}, q_tk K W M F1 L1 → s_vw M F1 L1 t1 0 → RX4_expect (59 : Int32) n1 sl1 SH1 F1 L1 R1 u1 s1 → ∃ F2 L2, s1 = (n1, sl1, SH1, F2, L2, R1) ∧ a_fr F1 F2 L1 L2 ∧ ((K t1 = 5 ∧ W t1 = 59 ∧ s_vw M F2 L2 (t1 + 1) 0) ∨ (¬ (K t1 = 5 ∧ W t1 = 59) ∧ s_ft F2)) := by
    intro n1 sl1 SH1 F1 L1 R1 t1 u1 s1 q1 w1 hx1
    obtain ⟨F2, L2, e, a2, r2⟩ := s_expect (w := 59) hx1 (by decide) (by decide) q1 w1
    refine ⟨F2, L2, e, a2, ?_⟩
    rcases r2 with ⟨ht, r, w⟩ | ⟨r, ft⟩
    · have ce := ck_e (q1.2.1 t1 ht).2.1
      exact Or.inl ⟨by omega, by omega, w⟩
    · refine Or.inr ⟨fun hk => ?_, ft⟩
      rcases s_kd q1 w1 with ⟨k1, -, -, kr, -⟩ | ⟨-, k1, -⟩
      · have ce := ck_e kr
        have := r k1
        omega
      · omega
  rcases h with ⟨hk, h⟩ | ⟨hk, h⟩
  · rw [z5] at hk
    have hK : K t = 3 := by
      rcases kd with ⟨-, kd, -, kr, -⟩ | ⟨-, -, kd⟩
      · have ce := ck_e kr
        omega
      · omega
    obtain ⟨v13, n13, sl13, SH13, FI13, FL13, FR13, hr, v14, n14, sl14, SH14, FI14, FL14, FR14, hx14, -, rfl⟩ := h
    obtain ⟨n2, sl2, SH2, F2, L2, R2, e, nn, b2, r2, f2, po⟩ := s_rows hr hx hQ hn hq hv h2 h3 h4
    cases e
    rcases po with ⟨t1, Q, lev, q1, ht1, w1, vi, f5⟩ | ⟨lev, ft⟩
    · obtain ⟨F3, L3, e, a3, r3⟩ := ex (q_b hq b2 hx) w1 hx14
      cases e
      obtain ⟨a, lev⟩ := lev
      have q8 := (lp_rw_m 20 0 t t1 Q.length _ _ (lev a 20 (Nat.le_refl _) (by decide))).2
      have hb : l_bd K W t (some (t1, Q.length, rw_fl Q ++ (lc_by 0 8 ++ lc_by 0 8), rw_b Q)) := ⟨a, fun f hf => by unfold lp_bd; rw [if_pos hK, lev f 20 hf (by decide)]⟩
      have b3 : b_ct x SH FI FL FR n13 SH13 FI14 FL14 FR13 := b_t0 b2 (b_lo (b_a b2.2.1 a3 (fun h => absurd w1.1 h)) (by omega))
      refine ⟨_, _, _, _, _, _, rfl, nn, b3, r2, ?_⟩
      rcases r3 with ⟨k1, k2, w3⟩ | ⟨kn, ft⟩
      · refine Or.inl ⟨t1, Q.length, _, _, hb, k1, k2, ht1, w3, Or.inr ⟨Q, rfl, q1, q8, by rw [a3.1 x 5 (by omega)]; exact f5, rfl, rfl, ?_⟩⟩
        exact v_in_fr vi (fun q k g1 g2 => a3.1 q k (by omega)) (fun q k g1 g2 => a3.2 q k (by omega)) (fun _ _ _ _ => rfl) (fun _ _ _ => rfl) (fun j _ => ⟨a3.2 (x + 1) j (by omega), a3.2 (x + 2) j (by omega), rfl⟩) (Nat.le_refl _)
      · exact Or.inr ⟨Or.inr ⟨t1, _, _, _, hb, kn⟩, ft⟩
    · have e := s_expect_f hx14 ft.1
      cases e
      obtain ⟨a, lev⟩ := lev
      exact ⟨_, _, _, _, _, _, rfl, nn, b2, r2, Or.inr ⟨Or.inl ⟨a, fun f hf => by unfold lp_bd; rw [if_pos hK, lev f 20 hf (by decide)]⟩, ft⟩⟩
  · rw [z5] at hk
    have hK : K t ≠ 3 := by
      rcases kd with ⟨-, kd, -, kr, -⟩ | ⟨-, kK, -⟩
      · have ce := ck_e kr
        omega
      · omega
    obtain ⟨v15, n15, sl15, SH15, FI15, FL15, FR15, hm, c17, e17, -, v17, n17, sl17, SH17, FI17, FL17, FR17, hx17, -, rfl⟩ := h
    rw [h4] at e17
    cases e17
    obtain ⟨n2, sl2, SH2, F2, L2, R2, rfl, e, nn, b2, po⟩ := s_location hQ hq hv hm
    cases e
    have b3 := b_wR (k := 0) (x := some n) (b_lo b2 (by omega : x ≤ n)) (by omega : x ≤ x + 3)
    have rx : ∀ k, h_up FR15 (x + 3) 0 (some n) x k = FR x k := fun k => by rw [h_up_nc (by omega)]; exact b2.2.2.2.2.1 x k (by omega)
    rcases po with ⟨t1, c, ⟨a, lev⟩, ht1, w1, ml⟩ | ⟨⟨a, lev⟩, ft⟩
    · obtain ⟨F3, L3, e, a3, r3⟩ := ex (q_b hq b2 (by omega)) w1 hx17
      cases e
      have hb : l_bd K W t (some (t1, 0, c, decide (300 < c.length))) := ⟨a, fun f hf => by unfold lp_bd; rw [if_neg hK, lev f hf]⟩
      refine ⟨_, _, _, _, _, _, rfl, by omega, b_t0 b3 (b_lo (b_a b2.2.1 a3 (fun h => absurd w1.1 h)) (by omega)), rx, ?_⟩
      rcases r3 with ⟨k1, k2, w3⟩ | ⟨kn, ft⟩
      · refine Or.inl ⟨t1, 0, c, _, hb, k1, k2, ht1, w3, Or.inl ⟨rfl, by rw [a3.1 x 5 (by omega), b2.2.2.1 x 5 (by omega) (by omega)]; exact h5, rfl, n, n, n15, hn, Nat.le_refl _, h_up_eq, ?_⟩⟩
        exact m_lc_fr ml ⟨fun q k g1 g2 => a3.1 q k (by omega), fun q k g1 g2 => a3.2 q k (by omega), fun q k g1 g2 => by rw [h_up_nc (by omega)], fun q g1 g2 => rfl⟩
      · exact Or.inr ⟨Or.inr ⟨t1, _, _, _, hb, kn⟩, ft⟩
    · have e := s_expect_f hx17 ft.1
      cases e
      exact ⟨_, _, _, _, _, _, rfl, by omega, b3, rx, Or.inr ⟨Or.inl ⟨a, fun f hf => by unfold lp_bd; rw [if_neg hK, lev f hf]⟩, ft⟩⟩
end SBD
