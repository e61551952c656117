section
/-! THE CLASS'S PARSER: a declaration's body. -/
theorem lp_rw_m {K W : Nat → Int} {f : Nat} : ∀ (g m t t1 m1 : Nat) (c : List Int) (b : Bool), lp_rw K W f g m t = some (t1, m1, c, b) → m < m1 ∧ m1 ≤ 8 := by
  intro g
  induction g with
  | zero => intro m t t1 m1 c b h; rw [lp_rw] at h; cases h
  | succ g ih =>
    intro m t t1 m1 c b h
    rw [lp_rw] at h
    by_cases h1 : K t = 3 ∧ m < 8 ∧ K (t + 1) = 5 ∧ W (t + 1) = 256 ∧ K (t + 2) = 3 ∧ W t < W (t + 2) ∧ K (t + 3) = 5 ∧ W (t + 3) = 58
    · rw [if_pos h1] at h
      cases e : lp_lc K W f (t + 4) with
      | none => rw [e] at h; cases h
      | some x =>
        obtain ⟨t2, c2⟩ := x
        rw [e] at h
        dsimp only at h
        by_cases h2 : K t2 = 5 ∧ W t2 = 44
        · rw [if_pos h2] at h
          cases e2 : lp_rw K W f g (m + 1) (t2 + 1) with
          | none => rw [e2] at h; cases h
          | some y =>
            obtain ⟨t3, m3, c3, b3⟩ := y
            rw [e2] at h
            dsimp only at h
            have e3 : m3 = m1 := congrArg (fun z => z.2.1) (Option.some.inj h)
            have := ih (m + 1) (t2 + 1) t3 m3 c3 b3 e2
            omega
        · rw [if_neg h2] at h
          have e3 : m + 1 = m1 := congrArg (fun z => z.2.1) (Option.some.inj h)
          omega
    · rw [if_neg h1] at h
      cases h
theorem rw_mem {Q : List r_Q} : ∀ (j : Nat) (q : r_Q), Q[j]? = some q → q.2.2.length ≤ (rw_fl Q).length := by
  induction Q with
  | nil => intro j q h; simp at h
  | cons a Q ih =>
    intro j q h
    rw [rw_fl_c, List.length_append, List.length_append, List.length_append, List.length_append]
    cases j with
    | zero =>
      rw [List.getElem?_cons_zero] at h
      cases h
      omega
    | succ j =>
      rw [List.getElem?_cons_succ] at h
      have := ih j q h
      omega
/-- what a variable x says, in the cells below n -/
def v_is (F : Nat → Nat → Int32) (L : Nat → Nat → Int64) (R : Nat → Nat → Option Nat) (SH : Nat → Nat × Nat) (n x m : Nat) (C : List Int) (b : Bool) : Prop := (m = 0 ∧ (F x 5).toInt = 0 ∧ b = decide (300 < C.length) ∧ ∃ a lo hi, x + 5 ≤ lo ∧ hi ≤ n ∧ R (x + 3) 0 = some a ∧ m_lc F L R SH lo hi a C) ∨ (∃ Q : List r_Q, m = Q.length ∧ 1 ≤ m ∧ m ≤ 8 ∧ (F x 5).toInt = (m : Int) ∧ C = rw_fl Q ++ (lc_by 0 8 ++ lc_by 0 8) ∧ b = rw_b Q ∧ v_in F L R SH n x Q)
/-- the same in all that agree from x on -/
theorem v_is_fr {F F2 : Nat → Nat → Int32} {L L2 : Nat → Nat → Int64} {R R2 : Nat → Nat → Option Nat} {SH S2 : Nat → Nat × Nat} {n n2 x m : Nat} {C : List Int} {b : Bool} (h : v_is F L R SH n x m C b) (hx : x + 5 ≤ n) (h0 : ∀ q k, x ≤ q → q < n → F2 q k = F q k) (h1 : ∀ q k, x ≤ q → q < n → L2 q k = L q k) (h2 : ∀ q k, x ≤ q → q < n → ¬ (q = x ∧ k = 6) → R2 q k = R q k) (h3 : ∀ q, x ≤ q → q < n → S2 q = SH q) (hn : n ≤ n2) : v_is F2 L2 R2 S2 n2 x m C b := by
  rcases h with ⟨y1, y2, y3, a, lo, hi, y4, y5, y6, y7⟩ | ⟨Q, y1, y2, y3, y4, y5, y6, y7⟩
  · exact Or.inl ⟨y1, by rw [h0 x 5 (Nat.le_refl _) (by omega)]; exact y2, y3, a, lo, hi, y4, by omega, by rw [h2 (x + 3) 0 (by omega) (by omega) (by omega)]; exact y6, m_lc_fr y7 ⟨fun p k g1 g2 => h0 p k (by omega) (by omega), fun p k g1 g2 => h1 p k (by omega) (by omega), fun p k g1 g2 => h2 p k (by omega) (by omega) (by omega), fun p g1 g2 => h3 p (by omega) (by omega)⟩⟩
  · exact Or.inr ⟨Q, y1, y2, y3, by rw [h0 x 5 (Nat.le_refl _) (by omega)]; exact y4, y5, y6, v_in_fr y7 (fun p k g1 g2 => h0 p k (by omega) (by omega)) (fun p k g1 g2 => h1 p k (by omega) (by omega)) (fun p k g1 g2 => h2 p k (by omega) (by omega) (by omega)) (fun p g1 g2 => h3 p (by omega) (by omega)) (fun j _ => ⟨h1 (x + 1) j (by omega) (by omega), h1 (x + 2) j (by omega) (by omega), h2 (x + 3) j (by omega) (by omega) (by omega)⟩) hn⟩
/-- so the coder writes it -/
theorem v_is_bd {F : Nat → Nat → Int32} {L : Nat → Nat → Int64} {R : Nat → Nat → Option Nat} {SH : Nat → Nat × Nat} {n x m : Nat} {C : List Int} {b : Bool} (h : v_is F L R SH n x m C b) (hz : C.length ≤ 100000) : v_bd F L R SH x m C b := by
  have al : ∀ lo hi, m_al lo hi F L R SH F L R SH := fun lo hi => ⟨fun _ _ _ _ => rfl, fun _ _ _ _ => rfl, fun _ _ _ _ => rfl, fun _ _ _ => rfl⟩
  rcases h with ⟨y1, y2, y3, a, lo, hi, -, -, y6, y7⟩ | ⟨Q, y1, y2, y3, y4, y5, y6, y7⟩
  · obtain ⟨f, hf⟩ := y7.2 F L R SH (al _ _)
    exact Or.inl ⟨y1, y2, hz, y3, a, f, y6, hf⟩
  · refine Or.inr ⟨Q, y1, y2, y3, y4, y5, y6, fun j q hj => ?_⟩
    obtain ⟨z1, z2, z3, z4, a, lo, hi, -, -, z7, z8⟩ := y7 j q hj
    obtain ⟨f, hf⟩ := z8.2 F L R SH (al _ _)
    have hl := rw_mem j q hj
    rw [y5, List.length_append] at hz
    exact ⟨z1, z2, z3, z4, by omega, a, f, z7, hf⟩
def l_bd (K W : Nat → Int) (t : Nat) (r : Option (Nat × Nat × List Int × Bool)) : Prop := ∃ F0, ∀ f, F0 ≤ f → lp_bd K W f t = r
section SBD
variable {K W : Nat → Int} {M : Nat} {n sl : Nat} {SH : Nat → Nat × Nat} {FI : Nat → Nat → Int32} {FL : Nat → Nat → Int64} {FR : Nat → Nat → Option Nat} {s : hS} {t : Nat}
/-- what stands behind = -/
def s_bdP (x n sl : Nat) (SH : Nat → Nat × Nat) (FI : Nat → Nat → Int32) (FL : Nat → Nat → Int64) (FR : Nat → Nat → Option Nat) : Unit → hS → Prop := (P_if ((FI 110 8).toInt = ((5 : Int32)).toInt) (P_bi (RX4_readRows (some x) n sl SH FI FL FR) (fun v13 n13 sl13 SH13 FI13 FL13 FR13 => (P_bi (RX4_expect ((59 : Int32)) n13 sl13 SH13 FI13 FL13 FR13) (fun v14 n14 sl14 SH14 FI14 FL14 FR14 => (P_ret () (n14, sl14, SH14, FI14, FL14, FR14)))))) (P_bi (RX4_readLocation n sl SH FI FL FR) (fun v15 n15 sl15 SH15 FI15 FL15 FR15 => (P_sm (FR x 4) (fun c17 => P_and (p_in ((0 : Int32)) (SH15 c17).2 ∧ ∃ v, v15 = some v) (P_bi (RX4_expect ((59 : Int32)) n15 sl15 SH15 FI15 FL15 (h_up FR15 c17 0 (v15))) (fun v17 n17 sl17 SH17 FI17 FL17 FR17 => (P_ret () (n17, sl17, SH17, FI17, FL17, FR17)))))))))
theorem s_body_f {x : Nat} {u : Unit} (hQ : h_S n SH) (hn : x + 5 ≤ n) (hf : s_ft FI) (h4 : FR x 4 = some (x + 3)) (h : s_bdP x n sl SH FI FL FR u s) : ∃ n2 sl2 SH2 F2 L2 R2, s = (n2, sl2, SH2, F2, L2, R2) ∧ n ≤ n2 ∧ b_ct x SH FI FL FR n2 SH2 F2 L2 R2 ∧ s_ft F2 := by
  rcases h with ⟨h5, -⟩ | ⟨-, h⟩
  · exfalso
    rw [hf.2] at h5
    revert h5
    decide
  · obtain ⟨v15, n15, sl15, SH15, FI15, FL15, FR15, hm, c17, e17, -, v17, n17, sl17, SH17, FI17, FL17, FR17, hx, -, rfl⟩ := h
    rw [h4] at e17
    cases e17
    obtain ⟨n2, sl2, SH2, F2, L2, R2, rfl, e, nn, b, ft⟩ := s_location_f hQ hf hm
    cases e
    have e := s_expect_f hx ft.1
    cases e
    exact ⟨_, _, _, _, _, _, rfl, by omega, b_wR (b_lo b (by omega)) (by omega), ft⟩
theorem s_body {x : Nat} {u : Unit} (hx : 176 ≤ x) (hQ : h_S n SH) (hn : x + 5 ≤ n) (hq : q_tk K W M FI FL) (hv : s_vw M FI FL t 0) (h2 : FR x 2 = some (x + 1)) (h3 : FR x 3 = some (x + 2)) (h4 : FR x 4 = some (x + 3)) (h5 : (FI x 5).toInt = 0) (h : s_bdP x n sl SH FI FL FR u s) : ∃ n2 sl2 SH2 F2 L2 R2, s = (n2, sl2, SH2, F2, L2, R2) ∧ n ≤ n2 ∧ b_ct x SH FI FL FR n2 SH2 F2 L2 R2 ∧ (∀ k, R2 x k = FR x k) ∧ ((∃ t1 m c b, l_bd K W t (some (t1, m, c, b)) ∧ K t1 = 5 ∧ W t1 = 59 ∧ t < t1 ∧ s_vw M F2 L2 (t1 + 1) 0 ∧ v_is F2 L2 R2 SH2 n2 x m c b) ∨ ((l_bd K W t none ∨ ∃ t1 m c b, l_bd K W t (some (t1, m, c, b)) ∧ ¬ (K t1 = 5 ∧ W t1 = 59)) ∧ s_ft F2)) := by
  have z5 : ((5 : Int32)).toInt = 5 := by decide
  have kd := s_kd hq hv
  have ex : ∀ {n1 sl1 : Nat} {SH1 : Nat → Nat × Nat} {F1 : Nat → Nat → Int32} {L1 : Nat → Nat → Int64} {R1 : Nat → Nat → Option Nat} {t1 : Nat} {u1 : Unit} {s1 : hS}, q_tk K W M F1 L1 → s_vw M F1 L1 t1 0 → RX4_expect (59 : Int32) n1 sl1 SH1 F1 L1 R1 u1 s1 → ∃ F2 L2, s1 = (n1, sl1, SH1, F2, L2, R1) ∧ a_fr F1 F2 L1 L2 ∧ ((K t1 = 5 ∧ W t1 = 59 ∧ s_vw M F2 L2 (t1 + 1) 0) ∨ (¬ (K t1 = 5 ∧ W t1 = 59) ∧ s_ft F2)) := by
    intro n1 sl1 SH1 F1 L1 R1 t1 u1 s1 q1 w1 hx1
    obtain ⟨F2, L2, e, a2, r2⟩ := s_expect (w := 59) hx1 (by decide) (by decide) q1 w1
    refine ⟨F2, L2, e, a2, ?_⟩
    rcases r2 with ⟨ht, r, w⟩ | ⟨r, ft⟩
    · have ce := ck_e (q1.2.1 t1 ht).2.1
      exact Or.inl ⟨by omega, by omega, w⟩
    · refine Or.inr ⟨fun hk => ?_, ft⟩
      rcases s_kd q1 w1 with ⟨k1, -, -, kr, -⟩ | ⟨-, k1, -⟩
      · have ce := ck_e kr
        have := r k1
        omega
      · omega
  rcases h with ⟨hk, h⟩ | ⟨hk, h⟩
  · rw [z5] at hk
    have hK : K t = 3 := by
      rcases kd with ⟨-, kd, -, kr, -⟩ | ⟨-, -, kd⟩
      · have ce := ck_e kr
        omega
      · omega
    obtain ⟨v13, n13, sl13, SH13, FI13, FL13, FR13, hr, v14, n14, sl14, SH14, FI14, FL14, FR14, hx14, -, rfl⟩ := h
    obtain ⟨n2, sl2, SH2, F2, L2, R2, e, nn, b2, r2, f2, po⟩ := s_rows hr hx hQ hn hq hv h2 h3 h4
    cases e
    rcases po with ⟨t1, Q, lev, q1, ht1, w1, vi, f5⟩ | ⟨lev, ft⟩
    · obtain ⟨F3, L3, e, a3, r3⟩ := ex (q_b hq b2 hx) w1 hx14
      cases e
      obtain ⟨a, lev⟩ := lev
      have q8 := (lp_rw_m 20 0 t t1 Q.length _ _ (lev a 20 (Nat.le_refl _) (by decide))).2
      have hb : l_bd K W t (some (t1, Q.length, rw_fl Q ++ (lc_by 0 8 ++ lc_by 0 8), rw_b Q)) := ⟨a, fun f hf => by unfold lp_bd; rw [if_pos hK, lev f 20 hf (by decide)]⟩
      have b3 : b_ct x SH FI FL FR n13 SH13 FI14 FL14 FR13 := b_t0 b2 (b_lo (b_a b2.2.1 a3 (fun h => absurd w1.1 h)) (by omega))
      refine ⟨_, _, _, _, _, _, rfl, nn, b3, r2, ?_⟩
      rcases r3 with ⟨k1, k2, w3⟩ | ⟨kn, ft⟩
      · refine Or.inl ⟨t1, Q.length, _, _, hb, k1, k2, ht1, w3, Or.inr ⟨Q, rfl, q1, q8, by rw [a3.1 x 5 (by omega)]; exact f5, rfl, rfl, ?_⟩⟩
        exact v_in_fr vi (fun q k g1 g2 => a3.1 q k (by omega)) (fun q k g1 g2 => a3.2 q k (by omega)) (fun _ _ _ _ => rfl) (fun _ _ _ => rfl) (fun j _ => ⟨a3.2 (x + 1) j (by omega), a3.2 (x + 2) j (by omega), rfl⟩) (Nat.le_refl _)
      · exact Or.inr ⟨Or.inr ⟨t1, _, _, _, hb, kn⟩, ft⟩
    · have e := s_expect_f hx14 ft.1
      cases e
      obtain ⟨a, lev⟩ := lev
      exact ⟨_, _, _, _, _, _, rfl, nn, b2, r2, Or.inr ⟨Or.inl ⟨a, fun f hf => by unfold lp_bd; rw [if_pos hK, lev f 20 hf (by decide)]⟩, ft⟩⟩
  · rw [z5] at hk
    have hK : K t ≠ 3 := by
      rcases kd with ⟨-, kd, -, kr, -⟩ | ⟨-, kK, -⟩
      · have ce := ck_e kr
        omega
      · omega
    obtain ⟨v15, n15, sl15, SH15, FI15, FL15, FR15, hm, c17, e17, -, v17, n17, sl17, SH17, FI17, FL17, FR17, hx17, -, rfl⟩ := h
    rw [h4] at e17
    cases e17
    obtain ⟨n2, sl2, SH2, F2, L2, R2, rfl, e, nn, b2, po⟩ := s_location hQ hq hv hm
    cases e
    have b3 := b_wR (k := 0) (x := some n) (b_lo b2 (by omega : x ≤ n)) (by omega : x ≤ x + 3)
    have rx : ∀ k, h_up FR15 (x + 3) 0 (some n) x k = FR x k := fun k => by rw [h_up_nc (by omega)]; exact b2.2.2.2.2.1 x k (by omega)
    rcases po with ⟨t1, c, ⟨a, lev⟩, ht1, w1, ml⟩ | ⟨⟨a, lev⟩, ft⟩
    · obtain ⟨F3, L3, e, a3, r3⟩ := ex (q_b hq b2 (by omega)) w1 hx17
      cases e
      have hb : l_bd K W t (some (t1, 0, c, decide (300 < c.length))) := ⟨a, fun f hf => by unfold lp_bd; rw [if_neg hK, lev f hf]⟩
      refine ⟨_, _, _, _, _, _, rfl, by omega, b_t0 b3 (b_lo (b_a b2.2.1 a3 (fun h => absurd w1.1 h)) (by omega)), rx, ?_⟩
      rcases r3 with ⟨k1, k2, w3⟩ | ⟨kn, ft⟩
      · refine Or.inl ⟨t1, 0, c, _, hb, k1, k2, ht1, w3, Or.inl ⟨rfl, by rw [a3.1 x 5 (by omega), b2.2.2.1 x 5 (by omega) (by omega)]; exact h5, rfl, n, n, n15, hn, Nat.le_refl _, h_up_eq, ?_⟩⟩
        exact m_lc_fr ml ⟨fun q k g1 g2 => a3.1 q k (by omega), fun q k g1 g2 => a3.2 q k (by omega), fun q k g1 g2 => by rw [h_up_nc (by omega)], fun q g1 g2 => rfl⟩
      · exact Or.inr ⟨Or.inr ⟨t1, _, _, _, hb, kn⟩, ft⟩
    · have e := s_expect_f hx17 ft.1
      cases e
      exact ⟨_, _, _, _, _, _, rfl, by omega, b3, rx, Or.inr ⟨Or.inl ⟨a, fun f hf => by unfold lp_bd; rw [if_neg hK, lev f hf]⟩, ft⟩⟩
end SBD
end
section
/-! THE CLASS'S PARSER: a declaration. -/
section DN
variable {n sl : Nat} {SH : Nat → Nat × Nat} {FI : Nat → Nat → Int32} {FL : Nat → Nat → Int64} {FR : Nat → Nat → Option Nat} {s : hS}
/-- a new variable -/
theorem d_new {nm : Option Nat} {pl : Int32} {v0 v1 : Unit} {n0 sl0 n1 sl1 : Nat} {SH0 SH1 : Nat → Nat × Nat} {FI0 FI1 : Nat → Nat → Int32} {FL0 FL1 : Nat → Nat → Int64} {FR0 FR1 : Nat → Nat → Option Nat} (hQ : h_S n SH) (k0 : P_nw 10 n sl SH FI FL FR v0 (n0, sl0, SH0, FI0, FL0, FR0)) (k1 : RX10_init n nm pl n0 sl0 SH0 FI0 FL0 FR0 v1 (n1, sl1, SH1, FI1, FL1, FR1)) : n1 = n + 5 ∧ b_ct n SH FI FL FR (n + 5) SH1 FI1 FL1 FR1 ∧ FI1 110 = FI 110 ∧ FL1 110 = FL 110 ∧ FR1 n 0 = nm ∧ FR1 n 2 = some (n + 1) ∧ FR1 n 3 = some (n + 2) ∧ FR1 n 4 = some (n + 3) ∧ FR1 n 6 = some (n + 4) ∧ FI1 n 5 = 0 := by
  have h176 := hQ.1
  have fz := b_nwz k0
  obtain ⟨sl', SH', F', L', R', e, q0, q1, q2, q3⟩ := b_nw hQ k0
  cases e
  obtain ⟨va, na, sla, SHa, FIa, FLa, FRa, h1, vb, nb, slb, SHb, FIb, FLb, FRb, h2, vc, nc, slc, SHc, FIc, FLc, FRc, h3, vd, nd, sld, SHd, FId, FLd, FRd, h4, -, e⟩ := k1
  obtain ⟨rfl, w1, -⟩ := y_na h1
  obtain ⟨rfl, w2, -⟩ := y_na h2
  obtain ⟨rfl, w3, -⟩ := y_na h3
  obtain ⟨rfl, w4, -⟩ := y_na h4
  cases e
  have b1 := b_wR (k := 2) (x := some (n + 1)) (b_tr q0 (y_ct q0.2.1 w1.1 w1.2.1 w1.2.2.1 w1.2.2.2)) (Nat.le_refl n)
  have b2 := b_wR (k := 3) (x := some (n + 1 + 1)) (b_tr b1 (y_ct b1.2.1 w2.1 w2.2.1 w2.2.2.1 w2.2.2.2)) (Nat.le_refl n)
  have b3 := b_wR (k := 4) (x := some (n + 1 + 1 + 1)) (b_tr b2 (y_ct b2.2.1 w3.1 w3.2.1 w3.2.2.1 w3.2.2.2)) (Nat.le_refl n)
  have b4 := b_tr b3 (y_ct b3.2.1 w4.1 w4.2.1 w4.2.2.1 w4.2.2.2)
  have b5 := b_wI (k := 1) (x := pl) (b_wR (k := 0) (x := nm) (b_wR (k := 6) (x := some (n + 1 + 1 + 1 + 1)) b4 (Nat.le_refl n)) (Nat.le_refl n)) h176 (Nat.le_refl n)
  -- the receiver's references
  have ra : ∀ k, FRa n k = none := fun k => by rw [w1.2.2.2 n (by omega)]; exact q1 k
  have rb : ∀ k, FRb n k = h_up FRa n 2 (some (n + 1)) n k := fun k => by rw [w2.2.2.2 n (by omega)]
  have rc : ∀ k, FRc n k = h_up FRb n 3 (some (n + 1 + 1)) n k := fun k => by rw [w3.2.2.2 n (by omega)]
  have rd : ∀ k, FRd n k = h_up FRc n 4 (some (n + 1 + 1 + 1)) n k := fun k => by rw [w4.2.2.2 n (by omega)]
  refine ⟨rfl, b5, ?_, ?_, h_up_eq, ?_, ?_, ?_, ?_, ?_⟩
  · rw [h_up_nc (by omega), w4.2.1 110 (by omega), w3.2.1 110 (by omega), w2.2.1 110 (by omega), w1.2.1 110 (by omega), q2]
  · rw [w4.2.2.1 110 (by omega), w3.2.2.1 110 (by omega), w2.2.2.1 110 (by omega), w1.2.2.1 110 (by omega), q3]
  · rw [h_up_ne (by decide), h_up_ne (by decide), rd, h_up_ne (by decide), rc, h_up_ne (by decide), rb, h_up_eq]
  · rw [h_up_ne (by decide), h_up_ne (by decide), rd, h_up_ne (by decide), rc, h_up_eq]
  · rw [h_up_ne (by decide), h_up_ne (by decide), rd, h_up_eq]
  · rw [h_up_ne (by decide), h_up_eq]
  · rw [h_up_ne (by decide), w4.2.1 n (by omega), w3.2.1 n (by omega), w2.2.1 n (by omega), w1.2.1 n (by omega)]; exact fz 5
theorem r_refuse {a : Int32} {v : Unit} (h : RX4_refuse a n sl SH FI FL FR v s) (ha : a.toInt ≠ 0) (h0 : (FI 110 5).toInt = 0) (h1 : 0 ≤ (FI 110 7).toInt) (h2 : (FI 110 7).toInt < (FI 111 4).toInt) : ∃ F2, s = (n, sl, SH, F2, FL, FR) ∧ a_fr FI F2 FL FL ∧ s_ft F2 := by
  rcases h with ⟨-, h⟩ | ⟨hn, -⟩
  · rcases h with ⟨h3, -⟩ | ⟨-, h⟩
    · exfalso; omega
    · rcases h with ⟨-, -, -, rfl⟩ | ⟨h3, -⟩
      · refine ⟨_, rfl, ⟨fun c k hck => ?_, fun _ _ _ => rfl⟩, ?_⟩
        · rw [h_up_x (fun h => hck ⟨h.1, by omega, by omega⟩), h_up_x (fun h => hck ⟨h.1, by omega, by omega⟩), h_up_x (fun h => hck ⟨h.1, by omega, by omega⟩)]
        · exact ⟨by rw [h_up_x (by decide), h_up_x (by decide), h_up_eq]; exact ha, by rw [h_up_eq]; decide⟩
      · exact absurd h2 h3
  · exact absurd h0 hn
theorem y_same0_G {c1 c2 : Nat} : ∀ (g : Nat) (l : Int32) (v : Int32) (s : hS), GX4_areSame_11 (some c1) (some c2) g l n sl SH FI FL FR v s → s = (n, sl, SH, FI, FL, FR) := by
  intro g
  induction g with
  | zero => intro l v s h; exact h.elim
  | succ g ih =>
    intro l v s h
    obtain ⟨c, e, h⟩ := h
    rcases h with ⟨-, h⟩ | ⟨-, -, rfl⟩
    · obtain ⟨c3, -, -, c4, -, -, h⟩ := h
      rcases h with ⟨-, h⟩ | ⟨-, -, rfl⟩
      · exact ih _ v s h
      · rfl
    · rfl
theorem y_known0_G {nm : Nat} : ∀ (g : Nat) (l : Int32) (v : Int32) (s : hS), GX4_isKnown_2 (some nm) g l n sl SH FI FL FR v s → s = (n, sl, SH, FI, FL, FR) := by
  intro g
  induction g with
  | zero => intro l v s h; exact h.elim
  | succ g ih =>
    intro l v s h
    rcases h with ⟨-, h⟩ | ⟨-, -, rfl⟩
    · obtain ⟨c2, -, h⟩ := h
      rcases h with ⟨-, h⟩ | ⟨-, -, rfl⟩
      · obtain ⟨c4, -, -, c5, -, v5, n5, sl5, SH5, FI5, FL5, FR5, hk, h⟩ := h
        have e : (n5, sl5, SH5, FI5, FL5, FR5) = (n, sl, SH, FI, FL, FR) := by
          obtain ⟨c, e1, c', e2, hk⟩ := hk
          rcases hk with ⟨-, g2, hk⟩ | ⟨-, -, hk⟩
          · rw [e1, e2] at hk
            exact y_same0_G g2 _ _ _ hk
          · exact hk
        cases e
        rcases h with ⟨-, h⟩ | ⟨-, -, rfl⟩
        · exact ih _ v s h
        · rfl
      · rfl
    · rfl
end DN
/-- cells below lo: what the parser leaves alone -/
def b_cd (lo : Nat) (SH : Nat → Nat × Nat) (FI : Nat → Nat → Int32) (FL : Nat → Nat → Int64) (FR : Nat → Nat → Option Nat) (n2 : Nat) (SH2 : Nat → Nat × Nat) (F2 : Nat → Nat → Int32) (L2 : Nat → Nat → Int64) (R2 : Nat → Nat → Option Nat) : Prop := lo ≤ n2 ∧ h_S n2 SH2 ∧ (∀ c k, c < lo → c ≠ 110 → c ≠ 117 → F2 c k = FI c k) ∧ (∀ c k, c < lo → c ≠ 110 → L2 c k = FL c k) ∧ (∀ c k, c < lo → R2 c k = FR c k) ∧ (∀ c, c < lo → SH2 c = SH c)
section BD
variable {lo n n1 n2 : Nat} {SH SH1 SH2 : Nat → Nat × Nat} {FI F1 F2 : Nat → Nat → Int32} {FL L1 L2 : Nat → Nat → Int64} {FR R1 R2 : Nat → Nat → Option Nat}
theorem b_cd_of (h : b_ct n SH FI FL FR n2 SH2 F2 L2 R2) (hl : lo ≤ n) : b_cd lo SH FI FL FR n2 SH2 F2 L2 R2 := by
  have := h.1
  exact ⟨by omega, h.2.1, fun c k g1 g2 g3 => h.2.2.1 c k (by omega) (by omega), fun c k g1 g2 => h.2.2.2.1 c k (by omega) (by omega), fun c k g1 => h.2.2.2.2.1 c k (by omega), fun c g1 => h.2.2.2.2.2.2 c (by omega)⟩
theorem b_cd_t (h : b_cd lo SH FI FL FR n1 SH1 F1 L1 R1) (h2 : b_cd lo SH1 F1 L1 R1 n2 SH2 F2 L2 R2) : b_cd lo SH FI FL FR n2 SH2 F2 L2 R2 :=
  ⟨h2.1, h2.2.1, fun c k g1 g2 g3 => (h2.2.2.1 c k g1 g2 g3).trans (h.2.2.1 c k g1 g2 g3), fun c k g1 g2 => (h2.2.2.2.1 c k g1 g2).trans (h.2.2.2.1 c k g1 g2), fun c k g1 => (h2.2.2.2.2.1 c k g1).trans (h.2.2.2.2.1 c k g1), fun c g1 => (h2.2.2.2.2.2 c g1).trans (h.2.2.2.2.2 c g1)⟩
theorem b_cd_3 {x : Int32} {vc k : Nat} {r : Option Nat} (h : b_cd lo SH FI FL FR n2 SH2 F2 L2 R2) (hv : lo ≤ vc) : b_cd lo SH FI FL FR n2 SH2 (h_up F2 110 3 x) L2 (h_up R2 vc k r) :=
  ⟨h.1, h.2.1, fun c k g1 g2 g3 => by rw [h_up_nc g2]; exact h.2.2.1 c k g1 g2 g3, h.2.2.2.1, fun c k g1 => by rw [h_up_nc (by omega)]; exact h.2.2.2.2.1 c k g1, h.2.2.2.2.2⟩
end BD
/-- a variable that is told, in the cells below n -/
def d_va (F : Nat → Nat → Int32) (L : Nat → Nat → Int64) (R : Nat → Nat → Option Nat) (SH : Nat → Nat × Nat) (n vc x : Nat) (v : lp_V) : Prop := vc < x ∧ x + 5 ≤ n ∧ R x 2 = some (x + 1) ∧ R x 3 = some (x + 2) ∧ R x 4 = some (x + 3) ∧ (∃ nm, R x 0 = some nm ∧ vc < nm ∧ nm < x ∧ nm_ok F SH nm v.1) ∧ v_is F L R SH n x v.2.2.1 v.2.2.2.1 v.2.2.2.2
/-- the variables: where each stands, where its cells end -/
def d_xs (F : Nat → Nat → Int32) (L : Nat → Nat → Int64) (R : Nat → Nat → Option Nat) (SH : Nat → Nat × Nat) (n vc : Nat) (xs ns : Nat → Nat) (V : List lp_V) : Prop := ∀ (i : Nat) (v : lp_V), V[i]? = some v → R vc i = some (xs i) ∧ ns i ≤ n ∧ (∀ j, j < i → ns j ≤ xs i) ∧ d_va F L R SH (ns i) vc (xs i) v
def d_st (F : Nat → Nat → Int32) (L : Nat → Nat → Int64) (R : Nat → Nat → Option Nat) (SH : Nat → Nat × Nat) (n vc : Nat) (V : List lp_V) : Prop := R 110 2 = some vc ∧ 176 ≤ vc ∧ vc < n ∧ (SH vc).2 = 12 ∧ (F 110 3).toInt = V.length ∧ V.length ≤ 12 ∧ ∃ xs ns, d_xs F L R SH n vc xs ns V
section DS
variable {F F2 : Nat → Nat → Int32} {L L2 : Nat → Nat → Int64} {R R2 : Nat → Nat → Option Nat} {SH S2 : Nat → Nat × Nat} {n n2 vc x : Nat} {v : lp_V} {V : List lp_V}
theorem d_va_fr (h : d_va F L R SH n vc x v) (h0 : ∀ q k, vc < q → q < n → F2 q k = F q k) (h1 : ∀ q k, vc < q → q < n → L2 q k = L q k) (h2 : ∀ q k, x ≤ q → q < n → ¬ (q = x ∧ k = 6) → R2 q k = R q k) (h3 : ∀ q, vc < q → q < n → S2 q = SH q) : d_va F2 L2 R2 S2 n vc x v := by
  obtain ⟨y1, y2, y3, y4, y5, ⟨nm, z1, z2, z3, z4⟩, y7⟩ := h
  exact ⟨y1, y2, by rw [h2 x 2 (Nat.le_refl _) (by omega) (by omega)]; exact y3, by rw [h2 x 3 (Nat.le_refl _) (by omega) (by omega)]; exact y4, by rw [h2 x 4 (Nat.le_refl _) (by omega) (by omega)]; exact y5, ⟨nm, by rw [h2 x 0 (Nat.le_refl _) (by omega) (by omega)]; exact z1, z2, z3, nm_fr z4 (by funext k; exact h0 nm k z2 (by omega)) (h3 nm z2 (by omega))⟩, v_is_fr y7 y2 (fun q k g1 g2 => h0 q k (by omega) g2) (fun q k g1 g2 => h1 q k (by omega) g2) h2 (fun q g1 g2 => h3 q (by omega) g2) (Nat.le_refl _)⟩
theorem d_ns_of (h : d_st F L R SH n vc V) : d_ns F R SH vc V := by
  intro i v hv
  obtain ⟨xs, ns, hx⟩ := h.2.2.2.2.2.2
  obtain ⟨r, -, -, d⟩ := hx i v hv
  obtain ⟨nm, z1, -, -, z4⟩ := d.2.2.2.2.2.1
  exact ⟨xs i, nm, r, z1, z4⟩
/-- the variables stay where all below n stays -/
theorem d_st_b {lo : Nat} (h : d_st F L R SH n vc V) (hb : b_ct lo SH F L R n2 S2 F2 L2 R2) (hl : n ≤ lo) : d_st F2 L2 R2 S2 n2 vc V := by
  obtain ⟨y1, y2, y3, y4, y5, y6, xs, ns, y7⟩ := h
  have := hb.1
  refine ⟨by rw [hb.2.2.2.2.1 110 2 (by omega)]; exact y1, y2, by omega, by rw [hb.2.2.2.2.2.2 vc (by omega)]; exact y4, by rw [hb.2.2.1 110 3 (by omega) (by omega)]; exact y5, y6, xs, ns, fun i v hv => ?_⟩
  obtain ⟨r, rn, ro, d⟩ := y7 i v hv
  have := d.1
  exact ⟨by rw [hb.2.2.2.2.1 vc i (by omega)]; exact r, by omega, ro, d_va_fr d (fun q k g1 g2 => hb.2.2.1 q k (by omega) (by omega)) (fun q k g1 g2 => hb.2.2.2.1 q k (by omega) (by omega)) (fun q k g1 g2 _ => hb.2.2.2.2.1 q k (by omega)) (fun q g1 g2 => hb.2.2.2.2.2.2 q (by omega))⟩
end DS
end
section
/-! THE CLASS'S PARSER: a declaration read. -/
def l_st (K W : Nat → Int) (t : Nat) (V : List lp_V) (r : Option (Nat × List lp_V)) : Prop := ∃ F0, ∀ f, F0 ≤ f → lp_st K W f t V = r
section SD
variable {K W : Nat → Int} {M : Nat} {X : Nat → Int} {N : Nat} {n sl : Nat} {SH : Nat → Nat × Nat} {FI : Nat → Nat → Int32} {FL : Nat → Nat → Int64} {FR : Nat → Nat → Option Nat} {s : hS} {t : Nat} {V : List lp_V}
theorem l_st_n (h : ¬ (K t = 1 ∧ (∀ v, v ∈ V → v.1 ≠ W t) ∧ V.length < 12 ∧ K (t + 1) = 5 ∧ W (t + 1) = 61)) : l_st K W t V none := ⟨0, fun f _ => by unfold lp_st; rw [if_neg h]⟩
theorem s_w3 {x : Int32} {o : Int} (h : q_tk K W M FI FL ∧ s_vw M FI FL t o) : q_tk K W M (h_up FI 110 3 x) FL ∧ s_vw M (h_up FI 110 3 x) FL t o := by
  have e1 : h_up FI 110 3 x 111 = FI 111 := h_up_nc (by decide)
  have e2 : h_up FI 110 3 x 112 = FI 112 := h_up_nc (by decide)
  obtain ⟨h, v1, v2, v3, v4, v5, v6⟩ := h
  refine ⟨q_fr h ⟨e2, by rw [e1], rfl⟩, ?_, ?_, v3, ?_, v5, ?_⟩
  · rw [h_up_ne (by decide)]; exact v1
  · rw [h_up_ne (by decide)]; exact v2
  · rw [h_up_ne (by decide), e2]; exact v4
  · rw [h_up_ne (by decide)]; exact v6
/-- the end of a name that is none -/
theorem s_take6 {u u2 : Unit} {n1 sl1 : Nat} {SH1 : Nat → Nat × Nat} {F1 : Nat → Nat → Int32} {L1 : Nat → Nat → Int64} {R1 : Nat → Nat → Option Nat} (h0 : (FI 110 5).toInt = 0) (h7 : (FI 110 7).toInt = M) (hM : M ≤ 1000) (hc : ((M + 2 : Nat) : Int) ≤ (FI 111 4).toInt) (h61 : (FI 112 (M + 1)).toInt ≠ 61) (h : RX4_take n sl SH FI FL FR u (n1, sl1, SH1, F1, L1, R1)) (h2 : RX4_expect (61 : Int32) n1 sl1 SH1 F1 L1 R1 u2 s) : ∃ F2 L2, s = (n, sl, SH, F2, L2, FR) ∧ a_fr FI F2 FL L2 ∧ s_ft F2 := by
  have e1 : ((FI 110 7) + (1 : Int32)).toInt = ((M + 1 : Nat) : Int) := by rw [i_add h7 (by decide : ((1 : Int32)).toInt = 1) (by omega) (by omega)]; omega
  have en : ((FI 110 7) + (1 : Int32)).toInt.toNat = M + 1 := by omega
  rcases h with ⟨-, h⟩ | ⟨hn, -⟩
  · rcases h with ⟨-, -, -, -, e⟩ | ⟨hn, -⟩
    · rw [en] at e
      cases e
      have ha : a_fr FI (h_up (h_up FI 110 7 ((FI 110 7) + (1 : Int32))) 110 8 (FI 112 (M + 1))) FL (h_up FL 110 9 (FL 113 (M + 1))) := ⟨fun c k hck => by rw [h_up_x (fun h => hck ⟨h.1, by omega, by omega⟩), h_up_x (fun h => hck ⟨h.1, by omega, by omega⟩)], fun c k hck => h_up_x hck⟩
      rcases h2 with ⟨hk, -⟩ | ⟨-, h2⟩
      · exfalso
        rw [h_up_eq, show ((61 : Int32)).toInt = 61 by decide] at hk
        exact h61 hk
      · obtain ⟨v2, n2, sl2, SH2, FI2, FL2, FR2, hr, -, rfl⟩ := h2
        obtain ⟨F2, e, a2, ft⟩ := r_refuse hr (by decide) (by rw [h_up_x (by decide), h_up_x (by decide)]; exact h0) (by rw [h_up_x (by decide), h_up_eq, e1]; omega) (by rw [h_up_x (by decide), h_up_eq, h_up_nc (by decide), h_up_nc (by decide), e1]; omega)
        exact ⟨_, _, e, a_t ha a2, ft⟩
    · exfalso
      rw [e1] at hn
      omega
  · exact absurd h0 hn
theorem s_decl {lo vc : Nat} {u : Unit} (hlo : 176 ≤ lo) (hvc : lo ≤ vc) (hQ : h_S n SH) (hq : q_tk K W M FI FL) (hm : q_nm K W M X N FI FR) (hv : s_vw M FI FL t 0) (hd : d_st FI FL FR SH n vc V) (h : RX4_readDeclaration n sl SH FI FL FR u s) : ∃ n2 sl2 SH2 F2 L2 R2, s = (n2, sl2, SH2, F2, L2, R2) ∧ n ≤ n2 ∧ b_cd lo SH FI FL FR n2 SH2 F2 L2 R2 ∧ ((∃ t2 V2, l_st K W t V (some (t2, V2)) ∧ t < t2 ∧ s_vw M F2 L2 t2 0 ∧ d_st F2 L2 R2 SH2 n2 vc V2) ∨ (l_st K W t V none ∧ s_ft F2)) := by
  have h176 := hQ.1
  have hvn := hd.2.2.1
  have z4 : ((4 : Int32)).toInt = 4 := by decide
  obtain ⟨v0, n0, sl0, SH0, FI0, FL0, FR0, hl, h⟩ := h
  obtain ⟨sl', SH', F', L', R', rfl, e, w, nmk⟩ := y_letters hQ hm hv.2.1 hl
  cases e
  have b0 := y_ct hQ w.1 w.2.1 w.2.2.1 w.2.2.2
  have hQ0 := b0.2.1
  obtain ⟨hq0, hv0⟩ := s_new h176 b0 (w.2.1 110 (by omega)) (w.2.2.1 110 (by omega)) hq hv
  have hd0 := d_st_b hd b0 (Nat.le_refl n)
  have bd0 : b_cd lo SH FI FL FR (n + 1) SH0 FI0 FL0 FR0 := b_cd_of b0 (by omega)
  have kd := s_kd hq0 hv0
  rcases h with ⟨h4, h⟩ | ⟨h4, h⟩
  · rw [z4] at h4
    obtain ⟨v2, n2, sl2, SH2, FI2, FL2, FR2, hk, h⟩ := h
    have hk0 := hk
    have e : (n2, sl2, SH2, FI2, FL2, FR2) = (n + 1, sl0, SH0, FI0, FL0, FR0) := by
      obtain ⟨g, hk⟩ := hk
      exact y_known0_G g _ _ _ hk
    cases e
    -- whether the name is known
    have kn : t < M → K t = 1 ∧ nm_ok FI0 SH0 n (W t) ∧ (v2.toInt = 0 ↔ ∀ x, x ∈ V → x.1 ≠ W t) := by
      intro ht
      have hK : K t = 1 := by
        rcases kd with ⟨-, kd, -, kr, -⟩ | ⟨e, -⟩
        · have ce := ck_e kr
          omega
        · omega
      have hnm := nmk ht hK (by have := s_cnt hq; omega)
      exact ⟨hK, hnm, (y_known hd0.1 hd0.2.2.2.1 hd0.2.2.2.2.1 hd0.2.2.2.2.2.1 hnm (d_ns_of hd0) hk0).2⟩
    have hMn : ¬ t < M → t = M ∧ K t ≠ 1 ∧ ((M + 2 : Nat) : Int) ≤ (FI0 111 4).toInt ∧ (FI0 112 (M + 1)).toInt ≠ 61 := by
      intro ht
      have eM : t = M := by have := hv.2.2.1; omega
      subst eM
      have hk4 : (FI0 112 t).toInt = 4 := by rw [← hv0.2.2.2.1]; exact h4
      rcases hq0.2.2 with ⟨-, y, -⟩ | ⟨y1, ⟨y2, -⟩ | ⟨y2, y3, y4⟩⟩
      · omega
      · omega
      · exact ⟨rfl, by omega, y3, y4⟩
    rcases h with ⟨hz, h⟩ | ⟨hz, h⟩
    · obtain ⟨c5, e5, h⟩ := h
      rw [hd0.1] at e5
      cases e5
      have ez : (Int32.ofNat (SH0 vc).2).toInt = 12 := by rw [hd0.2.2.2.1]; decide
      rw [ez, hd0.2.2.2.2.1] at h
      rcases h with ⟨hlt, h⟩ | ⟨hlt, h⟩
      · have hlt : V.length < 12 := by omega
        obtain ⟨v6, n6, sl6, SH6, FI6, FL6, FR6, k0, -, v7, n7, sl7, SH7, FI7, FL7, FR7, k1, c9, e9, -, v10, n10, sl10, SH10, FI10, FL10, FR10, hk10, v11, n11, sl11, SH11, FI11, FL11, FR11, hx11, h⟩ := h
        obtain ⟨rfl, b7, f110, l110, r0, r2, r3, r4, r6, f5⟩ := d_new hQ0 k0 k1
        have h : s_bdP (n + 1) n11 sl11 SH11 FI11 FL11 FR11 u s := h
        have e72 : FR7 110 2 = some vc := by rw [b7.2.2.2.2.1 110 2 (by omega)]; exact hd0.1
        rw [e72] at e9
        cases e9
        have e73 : (FI7 110 3).toInt = (V.length : Int) := by rw [f110]; exact hd0.2.2.2.2.1
        have em : (FI7 110 3).toInt.toNat = V.length := by omega
        rw [em] at hk10
        have eV : ((FI7 110 3) + (1 : Int32)).toInt = ((V.length + 1 : Nat) : Int) := by rw [i_add e73 (by decide : ((1 : Int32)).toInt = 1) (by omega) (by omega)]; omega
        obtain ⟨fE, hfE⟩ : ∃ f, f = h_up FI7 110 3 ((FI7 110 3) + (1 : Int32)) := ⟨_, rfl⟩
        obtain ⟨rE, hrE⟩ : ∃ f, f = h_up FR7 vc V.length (some (n + 1)) := ⟨_, rfl⟩
        obtain ⟨hq8, hv8⟩ := s_w3 (x := (FI7 110 3) + (1 : Int32)) (s_new (by omega) b7 f110 l110 hq0 hv0)
        have bd7 := b_cd_3 (x := (FI7 110 3) + (1 : Int32)) (k := V.length) (r := some (n + 1)) (b_cd_t bd0 (b_cd_of b7 (by omega : lo ≤ n + 1))) hvc
        rw [← hfE] at hk10 hq8 hv8 bd7
        rw [← hrE] at hk10 bd7
        have rx : ∀ k, rE (n + 1) k = FR7 (n + 1) k := fun k => by rw [hrE, h_up_nc (by omega)]
        by_cases ht : t < M
        · obtain ⟨hK, hnm, kni⟩ := kn ht
          obtain ⟨F10, L10, e, a10, w10⟩ := s_take hk10 hq8 hv8 ht
          cases e
          have hq10 := q_a hq8 a10
          obtain ⟨F11, L11, e, a11, r11⟩ := s_expect (w := 61) hx11 (by decide) (by decide) hq10 w10
          cases e
          have ha := a_t a10 a11
          have bd11 : b_cd lo SH FI FL FR (n + 1 + 5) SH7 FI11 FL11 _ := b_cd_t bd7 (b_cd_of (b_a b7.2.1 ha (fun h => absurd hv8.1 h)) (by omega))
          rcases r11 with ⟨ht11, r11, w11⟩ | ⟨r11, ft⟩
          · have hK1 : K (t + 1) = 5 ∧ W (t + 1) = 61 := by
              have ce := ck_e (hq10.2.1 (t + 1) ht11).2.1
              omega
            have hq11 := q_a hq10 a11
            have f5' : (FI11 (n + 1) 5).toInt = 0 := by rw [ha.1 (n + 1) 5 (by omega), hfE, h_up_nc (by omega), f5]; decide
            obtain ⟨n12, sl12, SH12, F12, L12, R12, rfl, nn, b12, r12, res⟩ := s_body (by omega) b7.2.1 (Nat.le_refl _) hq11 w11 (by rw [rx]; exact r2) (by rw [rx]; exact r3) (by rw [rx]; exact r4) f5' h
            have cond : K t = 1 ∧ (∀ v, v ∈ V → v.1 ≠ W t) ∧ V.length < 12 ∧ K (t + 1) = 5 ∧ W (t + 1) = 61 := ⟨hK, kni.mp hz, hlt, hK1.1, hK1.2⟩
            refine ⟨_, _, _, _, _, _, rfl, by omega, b_cd_t bd11 (b_cd_of b12 (by omega)), ?_⟩
            rcases res with ⟨t1, m, c, b, ⟨a, lev⟩, k1, k2, ht1, w12, vi⟩ | ⟨lev, ft⟩
            · refine Or.inl ⟨t1 + 1, V ++ [(W t, t + 2, m, c, b)], ⟨a, fun f hf => ?_⟩, by omega, w12, ?_⟩
              · unfold lp_st
                rw [if_pos cond, lev f hf]
                dsimp only
                rw [if_pos ⟨k1, k2⟩]
              · -- what lies below the new variable
                have g0 : ∀ q k, vc < q → q < n + 1 → F12 q k = FI0 q k := fun q k y1 y2 => by rw [b12.2.2.1 q k (by omega) (by omega), ha.1 q k (by omega), hfE, h_up_nc (by omega), b7.2.2.1 q k (by omega) (by omega)]
                have g1 : ∀ q k, vc < q → q < n + 1 → L12 q k = FL0 q k := fun q k y1 y2 => by rw [b12.2.2.2.1 q k (by omega) (by omega), ha.2 q k (by omega), b7.2.2.2.1 q k (by omega) (by omega)]
                have g2 : ∀ q k, vc < q → q < n + 1 → R12 q k = FR0 q k := fun q k y1 y2 => by rw [b12.2.2.2.2.1 q k (by omega), hrE, h_up_nc (by omega), b7.2.2.2.2.1 q k (by omega)]
                have g3 : ∀ q, q < n + 1 → SH12 q = SH0 q := fun q y2 => by rw [b12.2.2.2.2.2.2 q (by omega), b7.2.2.2.2.2.2 q (by omega)]
                obtain ⟨xs, ns, hxs⟩ := hd0.2.2.2.2.2.2
                refine ⟨by rw [b12.2.2.2.2.1 110 2 (by omega), hrE, h_up_nc (by omega)]; exact e72, hd0.2.1, by omega, by rw [g3 vc (by omega)]; exact hd0.2.2.2.1, ?_, by rw [List.length_append]; show V.length + 1 ≤ 12; omega, fun i => if i < V.length then xs i else n + 1, fun i => if i < V.length then ns i else n12, fun i v hv' => ?_⟩
                · rw [b12.2.2.1 110 3 (by omega) (by omega), ha.1 110 3 (by omega), hfE, h_up_eq, eV, List.length_append]
                  rfl
                · by_cases hi : i < V.length
                  · rw [List.getElem?_append_left hi] at hv'
                    obtain ⟨y1, y2, y3, y4⟩ := hxs i v hv'
                    have y5 := y4.1
                    dsimp only
                    rw [if_pos hi, if_pos hi]
                    exact ⟨by rw [b12.2.2.2.2.1 vc i (by omega), hrE, h_up_ne (by omega), b7.2.2.2.2.1 vc i (by omega)]; exact y1, by omega, fun j hj => by rw [if_pos (by omega)]; exact y3 j hj, d_va_fr y4 (fun q k z1 z2 => g0 q k z1 (by omega)) (fun q k z1 z2 => g1 q k z1 (by omega)) (fun q k z1 z2 _ => g2 q k (by omega) (by omega)) (fun q z1 z2 => g3 q (by omega))⟩
                  · rw [List.getElem?_append_right (by omega)] at hv'
                    have ei : i = V.length := by
                      have := (List.getElem?_eq_some_iff.mp hv').1
                      rw [List.length_singleton] at this
                      omega
                    subst ei
                    rw [Nat.sub_self] at hv'
                    have hv' : some (W t, t + 2, m, c, b) = some v := hv'
                    cases hv'
                    dsimp only
                    rw [if_neg (Nat.lt_irrefl _), if_neg (Nat.lt_irrefl _)]
                    refine ⟨by rw [b12.2.2.2.2.1 vc V.length (by omega), hrE, h_up_eq], Nat.le_refl _, fun j hj => ?_, by omega, by omega, by rw [r12, rx]; exact r2, by rw [r12, rx]; exact r3, by rw [r12, rx]; exact r4, ⟨n, by rw [r12, rx]; exact r0, hvn, by omega, nm_fr hnm (by funext k; exact g0 n k hvn (by omega)) (g3 n (by omega))⟩, vi⟩
                    rw [if_pos hj]
                    exact (hxs j V[j] (List.getElem?_eq_getElem hj)).2.1
            · refine Or.inr ⟨?_, ft⟩
              rcases lev with ⟨a, lev⟩ | ⟨t1, m, c, b, ⟨a, lev⟩, kx⟩
              · exact ⟨a, fun f hf => by unfold lp_st; rw [if_pos cond, lev f hf]⟩
              · refine ⟨a, fun f hf => ?_⟩
                unfold lp_st
                rw [if_pos cond, lev f hf]
                dsimp only
                rw [if_neg kx]
          · obtain ⟨n12, sl12, SH12, F12, L12, R12, rfl, nn, b12, ft2⟩ := s_body_f b7.2.1 (Nat.le_refl _) ft (by rw [rx]; exact r4) h
            refine ⟨_, _, _, _, _, _, rfl, by omega, b_cd_t bd11 (b_cd_of b12 (by omega)), Or.inr ⟨l_st_n (fun hh => ?_), ft2⟩⟩
            rcases s_kd hq10 w10 with ⟨k1, -, -, kr, -⟩ | ⟨-, k1, -⟩
            · have ce := ck_e kr
              have := r11 k1
              have := hh.2.2.2
              omega
            · have := hh.2.2.2
              omega
        · obtain ⟨eM, hK, hc, h61⟩ := hMn ht
          subst eM
          have e112 : fE 112 = FI0 112 := by funext k; rw [hfE, h_up_nc (by decide)]; exact b7.2.2.1 112 k (by omega) (by omega)
          have e111 : fE 111 4 = FI0 111 4 := by rw [hfE, h_up_nc (by decide)]; exact b7.2.2.1 111 4 (by omega) (by omega)
          obtain ⟨F11, L11, e, ha, ft⟩ := s_take6 hv8.1 hv8.2.1 hq.1 (by rw [e111]; exact hc) (by rw [e112]; exact h61) hk10 hx11
          cases e
          have bd11 : b_cd lo SH FI FL FR (n + 1 + 5) SH7 FI11 FL11 _ := b_cd_t bd7 (b_cd_of (b_a b7.2.1 ha (fun _ => ft.1)) (by omega))
          obtain ⟨n12, sl12, SH12, F12, L12, R12, rfl, nn, b12, ft2⟩ := s_body_f b7.2.1 (Nat.le_refl _) ft (by rw [rx]; exact r4) h
          exact ⟨_, _, _, _, _, _, rfl, by omega, b_cd_t bd11 (b_cd_of b12 (by omega)), Or.inr ⟨l_st_n (fun hh => hK hh.1), ft2⟩⟩
      · obtain ⟨v18, n18, sl18, SH18, FI18, FL18, FR18, hr, -, rfl⟩ := h
        obtain ⟨F3, e, a3, ft⟩ := s_refuse hr (by decide) hq0 hv0
        cases e
        refine ⟨_, _, _, _, _, _, rfl, by omega, b_cd_t bd0 (b_cd_of (b_a hQ0 a3 (fun _ => ft.1)) (by omega)), Or.inr ⟨l_st_n (fun hh => ?_), ft⟩⟩
        have := hh.2.2.1
        omega
    · obtain ⟨v18, n18, sl18, SH18, FI18, FL18, FR18, hr, -, rfl⟩ := h
      obtain ⟨F3, e, a3, ft⟩ := s_refuse hr (by decide) hq0 hv0
      cases e
      refine ⟨_, _, _, _, _, _, rfl, by omega, b_cd_t bd0 (b_cd_of (b_a hQ0 a3 (fun _ => ft.1)) (by omega)), Or.inr ⟨l_st_n (fun hh => ?_), ft⟩⟩
      by_cases ht : t < M
      · exact hz ((kn ht).2.2.mpr hh.2.1)
      · exact (hMn ht).2.1 hh.1
  · rw [z4] at h4
    obtain ⟨v18, n18, sl18, SH18, FI18, FL18, FR18, hr, -, rfl⟩ := h
    obtain ⟨F3, e, a3, ft⟩ := s_refuse hr (by decide) hq0 hv0
    cases e
    refine ⟨_, _, _, _, _, _, rfl, by omega, b_cd_t bd0 (b_cd_of (b_a hQ0 a3 (fun _ => ft.1)) (by omega)), Or.inr ⟨l_st_n (fun hh => ?_), ft⟩⟩
    rcases kd with ⟨-, kd, -, kr, -⟩ | ⟨-, kK, -⟩
    · have ce := ck_e kr
      have := hh.1
      omega
    · have := hh.1
      omega
end SD
end
section
/-! THE CLASS'S PARSER: the text. -/
theorem t_tl_el {X : Nat → Int} {N : Nat} : ∀ (f i : Nat) (x : Int × Int × Nat), x ∈ t_tl X N f i → x.1 ≠ 0 → x.2.2 < N ∧ x.1 = (t_tk X N x.2.2).1 ∧ x.2.1 = (t_tk X N x.2.2).2.1 := by
  intro f
  induction f with
  | zero => intro i x hx; rw [t_tl] at hx; cases hx
  | succ f ih =>
    intro i x hx h0
    rw [t_tl] at hx
    by_cases h1 : i < N
    · rw [if_pos h1] at hx
      by_cases h2 : t_bl (t_sg X N i) = true
      · rw [if_pos h2] at hx
        exact ih _ x hx h0
      · rw [if_neg h2] at hx
        rcases List.mem_cons.mp hx with rfl | hx
        · exact ⟨h1, rfl, rfl⟩
        · exact ih _ x hx h0
    · rw [if_neg h1] at hx
      rcases List.mem_cons.mp hx with rfl | hx
      · exact absurd rfl h0
      · cases hx
theorem t_tl_len {X : Nat → Int} {N : Nat} (hN : N ≤ 1000) : ∀ (f i : Nat), i ≤ N → (t_tl X N f i).length ≤ N - i + 1 := by
  intro f
  induction f with
  | zero => intro i _; rw [t_tl]; exact Nat.zero_le _
  | succ f ih =>
    intro i hi
    rw [t_tl]
    by_cases h1 : i < N
    · rw [if_pos h1]
      by_cases h2 : t_bl (t_sg X N i) = true
      · rw [if_pos h2]
        have := ih (i + 1) (by omega)
        omega
      · rw [if_neg h2]
        have h3 := t_tk_ok (X := X) h1 hN
        have h4 := t_tk_e (X := X) h1 hN
        have := ih (t_tk X N i).2.2 h4.2
        rw [List.length_cons]
        have := h4.1
        omega
    · rw [if_neg h1, List.length_singleton]
      omega
/-- a name's letters -/
theorem t_tk_nm {X : Nat → Int} {N p : Nat} (hp : p < N) (h : (t_tk X N p).1 = 1) : ∃ m, (t_tk X N p).2.2 = p + m ∧ 1 ≤ m ∧ m ≤ 8 ∧ p + m ≤ N ∧ (∀ j, j < m → t_al (t_sg X N (p + j)) = true) ∧ (t_tk X N p).2.1 = t_wv X N p m := by
  unfold t_tk at h ⊢
  by_cases h1 : t_sm (t_sg X N p) = true
  · rw [if_pos h1] at h ⊢
    by_cases h2 : t_rn t_al X N 1001 p - p > 8
    · rw [if_pos h2] at h
      exact absurd h (by first | decide | (dsimp only; decide) | simp)
    · rw [if_neg h2] at h ⊢
      by_cases h3 : t_wd (t_wv X N p (t_rn t_al X N 1001 p - p)) = -1
      · rw [if_pos h3]
        have g1 := t_rn_ge (p := t_al) (X := X) (N := N) 1001 p
        have g2 := t_rn_le (p := t_al) (by decide) (X := X) (N := N) 1001 p (by omega)
        have al : t_al (t_sg X N p) = true := by unfold t_al; rw [h1]; rfl
        have g3 : p + 1 ≤ t_rn t_al X N 1001 p := by
          rw [t_rn, if_pos al]
          exact t_rn_ge 1000 (p + 1)
        exact ⟨t_rn t_al X N 1001 p - p, by show t_rn t_al X N 1001 p = _; omega, by omega, by omega, by omega, fun j hj => t_rn_in 1001 p (p + j) (by omega) (by omega), rfl⟩
      · rw [if_neg h3] at h
        exact absurd h (by show ¬ (2 : Int) = 1; decide)
  · exfalso
    rw [if_neg h1] at h
    by_cases h2 : t_dg (t_sg X N p) = true
    · rw [if_pos h2] at h
      dsimp only at h
      split at h
      · exact absurd h (by decide)
      · split at h <;> exact absurd h (by decide)
    · rw [if_neg h2] at h
      by_cases h3 : t_sg X N p = 64
      · rw [if_pos h3] at h
        split at h <;> exact absurd h (by first | decide | (dsimp only; decide) | simp)
      · rw [if_neg h3] at h
        unfold t_sn at h
        split at h
        · exact absurd h (by first | decide | (dsimp only; decide) | simp)
        · split at h <;> exact absurd h (by first | decide | (dsimp only; decide) | simp)
section YQ
variable {X : Nat → Int} {N : Nat} {K W : Nat → Int}
/-- the places of the tokens too -/
theorem y_ok_q2 {F : Nat → Nat → Int32} {L : Nat → Nat → Int64} (hN : N ≤ 1000) : ∀ (l : List (Int × Int × Nat)) (j : Nat), y_ok X N F L l j → (∀ i x, l[i]? = some x → K (j + i) = x.1 ∧ W (j + i) = x.2.1 ∧ (x.1 ≠ 0 → x.2.2 < N ∧ x.1 = (t_tk X N x.2.2).1 ∧ x.2.1 = (t_tk X N x.2.2).2.1)) → j + l.length ≤ 1001 → ∃ M, j ≤ M ∧ M < j + l.length ∧ (∀ i, j ≤ i → i < M → K i ≠ 0 ∧ k_rg (K i) (W i) ∧ (F 112 i).toInt = t_ck (K i) (W i) ∧ (K i = 3 → (L 113 i).toInt = W i ∧ 0 ≤ W i ∧ W i ≤ 999999999999999999) ∧ (K i = 4 → (L 113 i).toInt = W i ∧ 1 ≤ W i ∧ W i ≤ 8)) ∧ ((K M = 0 ∧ (F 112 M).toInt = 2 ∧ (F 111 4).toInt = ((M + 1 : Nat) : Int)) ∨ (K M = 6 ∧ (((F 112 M).toInt = 3 ∧ (F 111 4).toInt = ((M + 1 : Nat) : Int)) ∨ ((F 112 M).toInt = 4 ∧ ((M + 2 : Nat) : Int) ≤ (F 111 4).toInt ∧ (F 112 (M + 1)).toInt ≠ 61)))) ∧ (∀ i, j ≤ i → i < M → ∃ p : Nat, (F 114 i).toInt = p ∧ p < N ∧ (F 115 i).toInt = ((t_tk X N p).2.2 : Int) ∧ K i = (t_tk X N p).1 ∧ W i = (t_tk X N p).2.1) := by
  intro l
  induction l with
  | nil => intro j h; exact h.elim
  | cons x l ih =>
    intro j h hK hl
    rw [List.length_cons] at hl ⊢
    have k0 := hK 0 x rfl
    rw [Nat.add_zero] at k0
    rw [y_ok] at h
    obtain ⟨h114, h | h | h⟩ := h
    · exact ⟨j, Nat.le_refl _, by omega, fun i h1 h2 => by omega, Or.inl ⟨k0.1.trans h.1, h.2⟩, fun i h1 h2 => by omega⟩
    · obtain ⟨h0, h6, hk, h115, hw, h⟩ := h
      obtain ⟨M, m1, m2, m3, m4, m5⟩ := ih (j + 1) h (fun i y hy => by
        have := hK (i + 1) y hy
        rw [show j + (i + 1) = j + 1 + i by omega] at this
        exact this) (by omega)
      have p := k0.2.2 h0
      refine ⟨M, by omega, by omega, fun i h1 h2 => ?_, m4, fun i h1 h2 => ?_⟩
      · by_cases e : i = j
        · subst e
          have kw := t_tk_kw (X := X) p.1 hN
          have tk := t_tk_ok (X := X) p.1 hN
          rw [← p.2.1, ← p.2.2] at kw tk
          rw [k0.1, k0.2.1]
          refine ⟨h0, ?_, hk, fun h3 => ⟨hw (Or.inl h3), (tk.2.1 h3).1⟩, fun h4 => ⟨hw (Or.inr h4), (tk.2.2.1 h4).1⟩⟩
          rcases kw with kw | kw | kw | kw | kw | kw
          · exact Or.inr (Or.inl kw.1)
          · exact Or.inr (Or.inr (Or.inl kw))
          · exact Or.inr (Or.inr (Or.inr (Or.inl kw)))
          · exact Or.inr (Or.inr (Or.inr (Or.inr (Or.inl kw))))
          · exact Or.inr (Or.inr (Or.inr (Or.inr (Or.inr kw))))
          · exact absurd kw h6
        · exact m3 i (by omega) h2
      · by_cases e : i = j
        · subst e
          exact ⟨x.2.2, h114, p.1, h115, by rw [k0.1]; exact p.2.1, by rw [k0.2.1]; exact p.2.2⟩
        · exact m5 i (by omega) h2
    · exact ⟨j, Nat.le_refl _, by omega, fun i h1 h2 => by omega, Or.inr ⟨k0.1.trans h.1, h.2⟩, fun i h1 h2 => by omega⟩
end YQ
section YF
variable {X : Nat → Int} {N tp : Nat} {n sl : Nat} {SH : Nat → Nat × Nat} {FR : Nat → Nat → Option Nat} {a1 : Option Nat} {a2 : Int32}
/-- what readAll leaves alone -/
def y_lf (FI F2 : Nat → Nat → Int32) (FL L2 : Nat → Nat → Int64) : Prop := (∀ c k, ¬ (110 ≤ c ∧ c ≤ 115) → F2 c k = FI c k) ∧ (∀ c k, ¬ (110 ≤ c ∧ c ≤ 115) → L2 c k = FL c k)
theorem y_turn2 {g : Nat} {FI : Nat → Nat → Int32} {FL : Nat → Nat → Int64} {v : Unit} {s : hS} {b j : Nat} (hS : h_S n SH) (h : GX7_readAll_30 a1 a2 (g + 1) n sl SH FI FL FR v s) (hy : y_vw SH FI FR tp X N) (h8 : (FI 111 8).toInt = b) (hb : b ≤ N) (h4 : (FI 111 4).toInt = j) (hj : j ≤ 1001) : s = (n, sl, SH, FI, FL, FR) ∨ (j < 1001 ∧ ∃ F2 L2 e, GX7_readAll_30 a1 a2 g n sl SH F2 L2 FR v s ∧ y_vw SH F2 FR tp X N ∧ (F2 111 4).toInt = ((j + 1 : Nat) : Int) ∧ (F2 111 8).toInt = ((e : Nat) : Int) ∧ y_is X N (t_sk X N 1001 b) (F2 111 9).toInt e (L2 111 10).toInt ∧ y_lf FI F2 FL L2) := by
  have hN := hy.2.1
  have hz : (Int32.ofNat (SH 112).2).toInt = 1001 := by rw [s112 hS]; decide
  rcases h with ⟨h1, h⟩ | ⟨h1, h⟩
  · rw [h4, hz] at h1
    rcases h with ⟨h2, h⟩ | ⟨h2, h⟩
    · exact Or.inl h.2
    · rcases h with ⟨h3, h⟩ | ⟨h3, h⟩
      · exact Or.inl h.2
      · obtain ⟨v3, n3, sl3, SH3, FI3, FL3, FR3, ⟨gt, hc⟩, -, -, -, -, h⟩ := h
        obtain ⟨F2, L2, e, w1, w2, w3, w4, w5⟩ := y_readToken_G gt FI v3 _ 1001 b hc hy h8 hb (by omega)
        cases w1
        have f4 : FI3 111 4 = FI 111 4 := w2.1 111 4 (by decide)
        have f4' : (FI3 111 4).toInt = j := by rw [f4]; exact h4
        have f4n : (FI3 111 4).toInt.toNat = j := by omega
        rw [f4n] at h
        refine Or.inr ⟨by omega, _, _, e, h, ?_, ?_, ?_, ?_, ?_, ?_⟩
        · have t1 := hy.2.2.2.2.1
          have t2 := hy.2.2.2.2.2.1
          have t3 := hy.2.2.2.2.2.2.1
          have t4 := hy.2.2.2.2.2.2.2.1
          refine ⟨?_, hN, hy.2.2.1, hy.2.2.2.1, t1, t2, t3, t4, ?_⟩
          · rw [h_up_x (by decide), h_up_nc (by decide), h_up_nc (by decide), h_up_nc (by decide), w2.1 111 6 (by decide)]
            exact hy.1
          · intro i hi
            rw [h_up_nc t1, h_up_nc t4, h_up_nc t3, h_up_nc t2, w2.1 tp i (fun h => t1 h.1)]
            exact hy.2.2.2.2.2.2.2.2 i hi
        · rw [h_up_eq, i_add f4' (by decide : ((1 : Int32)).toInt = 1) (by omega) (by omega)]; omega
        · rw [h_up_x (by decide), h_up_nc (by decide), h_up_nc (by decide), h_up_nc (by decide)]; exact w4
        · rw [h_up_x (by decide), h_up_nc (by decide), h_up_nc (by decide), h_up_nc (by decide), h_up_nc (by decide)]; exact w5
        · intro c k hx
          rw [h_up_nc (by omega), h_up_nc (by omega), h_up_nc (by omega), h_up_nc (by omega)]
          exact w2.1 c k (by omega)
        · intro c k hx
          rw [h_up_nc (by omega)]
          exact w2.2 c k (by omega)
  · exact Or.inl h.2
theorem y_lf_t {F1 F2 F3 : Nat → Nat → Int32} {L1 L2 L3 : Nat → Nat → Int64} (h : y_lf F1 F2 L1 L2) (h2 : y_lf F2 F3 L2 L3) : y_lf F1 F3 L1 L3 := ⟨fun c k hx => (h2.1 c k hx).trans (h.1 c k hx), fun c k hx => (h2.2 c k hx).trans (h.2 c k hx)⟩
theorem y_rest2 (hQ : h_S n SH) : ∀ (g : Nat) (FI : Nat → Nat → Int32) (FL : Nat → Nat → Int64) (v : Unit) (s : hS) (b j : Nat), GX7_readAll_30 a1 a2 g n sl SH FI FL FR v s → y_vw SH FI FR tp X N → (FI 111 8).toInt = b → (b ≤ N ∨ (FI 111 9).toInt = 3) → (FI 111 4).toInt = j → j ≤ 1001 → ∃ F2 L2, s = (n, sl, SH, F2, L2, FR) ∧ y_lf FI F2 FL L2 := by
  intro g
  induction g with
  | zero => intro FI FL v s b j h; exact h.elim
  | succ g ih =>
    intro FI FL v s b j h hy h8 hb h4 hj
    have hN := hy.2.1
    have same : s = (n, sl, SH, FI, FL, FR) → ∃ F2 L2, s = (n, sl, SH, F2, L2, FR) ∧ y_lf FI F2 FL L2 := fun e => ⟨FI, FL, e, fun _ _ _ => rfl, fun _ _ _ => rfl⟩
    by_cases h3 : (FI 111 9).toInt = 3
    · exact same (y_stop h (Or.inr h3))
    · have hb2 : b ≤ N := hb.resolve_right h3
      have sk := t_tl_sk (X := X) hN 1001 b hb2 (by omega)
      rcases y_turn2 hQ h hy h8 hb2 h4 hj with q | ⟨q3, F2, L2, e, w1, w2, w3, w4, w5, w6⟩
      · exact same q
      · have ie := y_is_e hN sk.2.1 w5
        obtain ⟨F3, L3, z1, z2⟩ := ih F2 L2 v s e (j + 1) w1 w2 w4 (by rcases ie with i | i | i; exact Or.inl (by omega); exact Or.inr i; exact Or.inl i.2.1) w3 (by omega)
        exact ⟨F3, L3, z1, y_lf_t w6 z2⟩
theorem y_readAll_fr {FI : Nat → Nat → Int32} {FL : Nat → Nat → Int64} {v : Unit} {s : hS} (hQ : h_S n SH) (h : RX7_readAll (some tp) a2 n sl SH FI FL FR v s) (ha : a2.toInt = N) (hN : N ≤ 1000) (hz : (SH tp).2 = 1000) (ht : tp ≠ 111 ∧ tp ≠ 112 ∧ tp ≠ 114 ∧ tp ≠ 115) (hX : ∀ i, i < N → (FI tp i).toInt = X i ∧ 0 ≤ X i ∧ X i ≤ 255) : ∃ F2 L2, s = (n, sl, SH, F2, L2, h_up FR 111 5 (some tp)) ∧ y_lf FI F2 FL L2 := by
  obtain ⟨c2, e2, g, h⟩ := h
  cases e2
  have hm : fJ9_min_7cf53 a2 (Int32.ofNat (SH tp).2) SH FI FL (h_up FR 111 5 (some tp)) = a2 := by
    unfold fJ9_min_7cf53
    rw [hz, if_neg]
    rw [ha, show (Int32.ofNat 1000).toInt = 1000 by decide]
    omega
  rw [hm] at h
  have hy : y_vw SH (h_up (h_up (h_up (h_up FI 111 6 a2) 111 8 ((0 : Int32))) 111 4 ((0 : Int32))) 111 9 ((1 : Int32))) (h_up FR 111 5 (some tp)) tp X N := by
    refine ⟨?_, hN, h_up_eq, hz, ht.1, ht.2.1, ht.2.2.1, ht.2.2.2, ?_⟩
    · rw [h_up_x (by decide), h_up_x (by decide), h_up_x (by decide), h_up_eq]
      exact ha
    · intro i hi
      rw [h_up_nc ht.1, h_up_nc ht.1, h_up_nc ht.1, h_up_nc ht.1]
      exact hX i hi
  obtain ⟨F2, L2, q1, q2⟩ := y_rest2 hQ g _ FL v s 0 0 h hy (by rw [h_up_x (by decide), h_up_x (by decide), h_up_eq]; rfl) (Or.inl (Nat.zero_le _)) (by rw [h_up_x (by decide), h_up_eq]; rfl) (by omega)
  exact ⟨F2, L2, q1, fun c k hx => by rw [q2.1 c k hx, h_up_nc (by omega), h_up_nc (by omega), h_up_nc (by omega), h_up_nc (by omega)], q2.2⟩
end YF
/-- begin: the tokens, no variable yet -/
theorem s_begin {n sl N : Nat} {X K W : Nat → Int} {SH : Nat → Nat × Nat} {FI : Nat → Nat → Int32} {FL : Nat → Nat → Int64} {FR : Nat → Nat → Option Nat} {a2 : Int32} {u : Unit} {s : hS} (hQ : h_S n SH) (h : RX4_begin (some 19) a2 n sl SH FI FL FR u s) (ha : a2.toInt = N) (hN : N ≤ 1000) (hX : ∀ i, i < N → (FI 19 i).toInt = X i ∧ 0 ≤ X i ∧ X i ≤ 255) (hK : ∀ i x, (t_tl X N 1001 0)[i]? = some x → K i = x.1 ∧ W i = x.2.1) : ∃ M sl2 SH2 F2 L2 R2, s = (n + 1, sl2, SH2, F2, L2, R2) ∧ M ≤ N ∧ M < (t_tl X N 1001 0).length ∧ h_S (n + 1) SH2 ∧ q_tk K W M F2 L2 ∧ q_nm K W M X N F2 R2 ∧ s_vw M F2 L2 0 0 ∧ d_st F2 L2 R2 SH2 (n + 1) n [] ∧ (∀ c k, c < n → ¬ (110 ≤ c ∧ c ≤ 115) → F2 c k = FI c k) ∧ (∀ c k, c < n → ¬ (110 ≤ c ∧ c ≤ 115) → L2 c k = FL c k) ∧ (∀ c k, c < n → ¬ (110 ≤ c ∧ c ≤ 111) → R2 c k = FR c k) ∧ (∀ c, c < n → SH2 c = SH c) := by
  have h176 := hQ.1
  have e19 : SH 19 = (100, 1000) := hQ.2 19 (by decide)
  obtain ⟨v0, n0, sl0, SH0, FI0, FL0, FR0, hr, v1, n1, sl1, SH1, FI1, FL1, FR1, hn, v8, n8, sl8, SH8, FI8, FL8, FR8, ht, -, rfl⟩ := h
  obtain ⟨F2, L2, e, fr⟩ := y_readAll_fr hQ hr ha hN (by rw [e19]) ⟨by decide, by decide, by decide, by decide⟩ hX
  cases e
  obtain ⟨F2, L2, e, hy, ho⟩ := y_readAll hQ hr ha hN (by rw [e19]) ⟨by decide, by decide, by decide, by decide⟩ hX
  cases e
  obtain ⟨rfl, w, es, -, er⟩ := y_na hn
  have hl := t_tl_len (X := X) hN 1001 0 (Nat.zero_le _)
  obtain ⟨M, -, m2, m3, m4, m5⟩ := y_ok_q2 (K := K) (W := W) hN (t_tl X N 1001 0) 0 ho (fun i x hx => ⟨by rw [Nat.zero_add]; exact (hK i x hx).1, by rw [Nat.zero_add]; exact (hK i x hx).2, t_tl_el 1001 0 x (List.mem_of_getElem? hx)⟩) (by omega)
  have f1 : ∀ c, c < n → FI1 c = FI0 c := fun c hc => w.2.1 c (by omega)
  have l1 : ∀ c, c < n → FL1 c = FL0 c := fun c hc => w.2.2.1 c (by omega)
  obtain ⟨gE, hgE⟩ : ∃ f, f = h_up (h_up (h_up (h_up (h_up FI1 110 3 ((0 : Int32))) 110 4 ((0 : Int32))) 110 5 ((0 : Int32))) 110 6 ((-1 : Int32))) 110 7 ((-1 : Int32)) := ⟨_, rfl⟩
  rw [← hgE] at ht
  have gc : ∀ c, c ≠ 110 → gE c = FI1 c := fun c hc => by rw [hgE, h_up_nc hc, h_up_nc hc, h_up_nc hc, h_up_nc hc, h_up_nc hc]
  have g7 : gE 110 7 = -1 := by rw [hgE, h_up_eq]
  have g5 : gE 110 5 = 0 := by rw [hgE, h_up_ne (by decide), h_up_ne (by decide), h_up_eq]
  have g4 : gE 110 4 = 0 := by rw [hgE, h_up_ne (by decide), h_up_ne (by decide), h_up_ne (by decide), h_up_eq]
  have g3 : gE 110 3 = 0 := by rw [hgE, h_up_ne (by decide), h_up_ne (by decide), h_up_ne (by decide), h_up_ne (by decide), h_up_eq]
  have c4 : (1 : Int) ≤ (gE 111 4).toInt := by
    rw [gc 111 (by decide), f1 111 (by omega)]
    rcases m4 with m | ⟨-, m | m⟩ <;> omega
  have hq1 : q_tk K W M gE FL1 := by
    refine q_fr (FI := FI0) (FL := FL0) ⟨by omega, fun i hi => m3 i (Nat.zero_le _) hi, m4⟩ ⟨by rw [gc 112 (by decide), f1 112 (by omega)], by rw [gc 111 (by decide), f1 111 (by omega)], l1 113 (by omega)⟩
  have et : (gE 110 7 + (1 : Int32)).toInt.toNat = 0 := by rw [g7]; decide
  rcases ht with ⟨-, ht⟩ | ⟨hn5, -⟩
  · rcases ht with ⟨-, -, -, -, e⟩ | ⟨hlt, -⟩
    · rw [et] at e
      cases e
      have e112 : ∀ c k, c ≠ 110 → h_up (h_up gE 110 7 (gE 110 7 + (1 : Int32))) 110 8 (gE 112 0) c k = gE c k := fun c k hc => by rw [h_up_nc hc, h_up_nc hc]
      have s1 : SH1 n = (104, 12) := es
      refine ⟨M, _, _, _, _, _, rfl, by omega, by omega, ⟨by omega, fun q hq => (w.1 q (by omega)).trans (hQ.2 q hq)⟩, ?_, ?_, ?_, ?_, ?_, ?_, ?_, ?_⟩
      · exact q_fr hq1 ⟨by funext k; exact e112 112 k (by decide), e112 111 4 (by decide), h_up_nc (by decide)⟩
      · refine ⟨by rw [h_up_nc (by decide), w.2.2.2 111 (by omega), h_up_eq], hN, fun i hi => ?_, fun i hi h1 => ?_⟩
        · rw [e112 19 i (by decide), gc 19 (by decide), f1 19 (by omega)]
          exact (hy.2.2.2.2.2.2.2.2 i hi).1
        · obtain ⟨p, p1, p2, p3, p4, p5⟩ := m5 i (Nat.zero_le _) hi
          obtain ⟨m, y1, y2, y3, y4, y5, y6⟩ := t_tk_nm p2 (by rw [← p4]; exact h1)
          refine ⟨p, m, ?_, ?_, y2, y3, y4, y5, by rw [p5]; exact y6⟩
          · rw [e112 114 i (by decide), gc 114 (by decide), f1 114 (by omega)]; exact p1
          · rw [e112 115 i (by decide), gc 115 (by decide), f1 115 (by omega), p3, y1]
      · refine ⟨?_, ?_, Nat.zero_le _, ?_, ?_, ?_⟩
        · rw [h_up_x (by decide), h_up_x (by decide), g5]; decide
        · rw [h_up_x (by decide), h_up_eq, g7]; decide
        · rw [h_up_eq, e112 112 0 (by decide)]
        · rw [h_up_eq, h_up_nc (by decide)]
        · rw [h_up_x (by decide), h_up_x (by decide), g4]; decide
      · refine ⟨h_up_eq, h176, by omega, by rw [s1], ?_, Nat.zero_le _, fun _ => 0, fun _ => 0, fun i v hv => by simp at hv⟩
        rw [h_up_x (by decide), h_up_x (by decide), g3]; decide
      · intro c k hc hx
        rw [e112 c k (by omega), gc c (by omega), f1 c hc]
        exact fr.1 c k hx
      · intro c k hc hx
        rw [h_up_nc (by omega), l1 c hc]
        exact fr.2 c k hx
      · intro c k hc hx
        rw [h_up_nc (by omega), w.2.2.2 c (by omega), h_up_nc (by omega)]
      · exact fun c hc => w.1 c (by omega)
    · exfalso
      rw [g7] at hlt
      have : ((-1 : Int32) + (1 : Int32)).toInt = 0 := by decide
      omega
  · exfalso
    rw [g5] at hn5
    exact hn5 (by decide)
end
section
/-! THE CLASS'S COMPILE. -/
section CM
variable {K W : Nat → Int} {M : Nat} {X : Nat → Int} {N : Nat} {P : Nat → Nat}
def l_tx (K W : Nat → Int) (M t : Nat) (V : List lp_V) (r : Option (List lp_V)) : Prop := ∃ F0, ∀ f g, F0 ≤ f → M + 1 ≤ g + t → lp_tx K W f g t V = r
theorem l_tx_0 {t : Nat} {V : List lp_V} (ht : t ≤ M) (h : K t = 0) : l_tx K W M t V (some V) := by
  refine ⟨0, fun f g _ hg => ?_⟩
  cases g with
  | zero => omega
  | succ g => rw [lp_tx_st, if_pos h]
theorem l_tx_n {t : Nat} {V : List lp_V} (ht : t ≤ M) (h : K t ≠ 0) (hs : l_st K W t V none) : l_tx K W M t V none := by
  obtain ⟨a, hs⟩ := hs
  refine ⟨a, fun f g hf hg => ?_⟩
  cases g with
  | zero => omega
  | succ g => rw [lp_tx_st, if_neg h, hs f hf]
theorem l_tx_s {t t2 : Nat} {V V2 : List lp_V} {r : Option (List lp_V)} (ht : t ≤ M) (h : K t ≠ 0) (hs : l_st K W t V (some (t2, V2))) (ht2 : t < t2) (hr : l_tx K W M t2 V2 r) : l_tx K W M t V r := by
  obtain ⟨a, hs⟩ := hs
  obtain ⟨b, hr⟩ := hr
  refine ⟨a + b, fun f g hf hg => ?_⟩
  cases g with
  | zero => omega
  | succ g =>
    rw [lp_tx_st, if_neg h, hs f (by omega)]
    exact hr f g (by omega) (by omega)
theorem s_goes {n sl : Nat} {SH : Nat → Nat × Nat} {FI : Nat → Nat → Int32} {FL : Nat → Nat → Int64} {FR : Nat → Nat → Option Nat} : (fX4_goesOn SH FI FL FR).toInt = 0 ↔ ((FI 110 5).toInt ≠ 0 ∨ (FI 110 8).toInt = 2) := by
  unfold fX4_goesOn
  have z2 : ((2 : Int32)).toInt = 2 := by decide
  have z1 : ((1 : Int32)).toInt = 1 := by decide
  have z0 : ((0 : Int32)).toInt = 0 := by decide
  rw [z2]
  by_cases h1 : (FI 110 5).toInt = 0
  · rw [if_pos h1]
    by_cases h2 : (FI 110 8).toInt = 2
    · rw [if_pos h2, z0]; omega
    · rw [if_neg h2, z1]; omega
  · rw [if_neg h1, z0]; omega
theorem s_goes' {SH : Nat → Nat × Nat} {FI : Nat → Nat → Int32} {FL : Nat → Nat → Int64} {FR : Nat → Nat → Option Nat} : (fX4_goesOn SH FI FL FR).toInt = 0 ↔ ((FI 110 5).toInt ≠ 0 ∨ (FI 110 8).toInt = 2) := s_goes (n := 0) (sl := 0)
/-- the declarations, one by one -/
theorem s_text {lo vc : Nat} {l1 : Int32} (hP : tk_P K W P) (hlo : 176 ≤ lo) (hvc : lo ≤ vc) (hl1 : l1.toInt = N) (hMN : M ≤ N) (hN : N ≤ 1000) : ∀ (g : Nat) (l2 : Int32) (n sl : Nat) (SH : Nat → Nat × Nat) (FI : Nat → Nat → Int32) (FL : Nat → Nat → Int64) (FR : Nat → Nat → Option Nat) (v : Int32) (s : hS) (t i : Nat) (V : List lp_V), GX11_compile_24 g l1 l2 n sl SH FI FL FR v s → h_S n SH → q_tk K W M FI FL → q_nm K W M X N FI FR → s_vw M FI FL t 0 → d_st FI FL FR SH n vc V → l2.toInt = i → i ≤ t → (lp_fl V).length ≤ 4 * P t → ∃ n2 sl2 SH2 F2 L2 R2, RX11_compile_52 n2 sl2 SH2 F2 L2 R2 v s ∧ n ≤ n2 ∧ b_cd lo SH FI FL FR n2 SH2 F2 L2 R2 ∧ ((∃ V2, l_tx K W M t V (some V2) ∧ (F2 110 5).toInt = 0 ∧ d_st F2 L2 R2 SH2 n2 vc V2 ∧ ∃ t', t' ≤ M ∧ (lp_fl V2).length ≤ 4 * P t') ∨ (l_tx K W M t V none ∧ s_ft F2)) := by
  intro g
  induction g with
  | zero => intro l2 n sl SH FI FL FR v s t i V h; exact h.elim
  | succ g ih =>
    intro l2 n sl SH FI FL FR v s t i V h hQ hq hm hv hd hl2 hi hz
    have htM := hv.2.2.1
    have hvn := hd.2.2.1
    have brf : b_cd lo SH FI FL FR n SH FI FL FR := ⟨by omega, hQ, fun _ _ _ _ _ => rfl, fun _ _ _ _ => rfl, fun _ _ _ => rfl, fun _ _ => rfl⟩
    rcases h with ⟨h1, h⟩ | ⟨-, h⟩
    · exfalso; omega
    · rcases h with ⟨h2, h⟩ | ⟨h2, h⟩
      · rw [s_goes'] at h2
        have hk : (FI 110 8).toInt = 2 := h2.resolve_left (fun hh => hh hv.1)
        have hK : K t = 0 := by
          rcases s_kd hq hv with ⟨-, kd, k0, kr, -⟩ | ⟨e, -, -⟩
          · have ce := ck_e kr
            exfalso; omega
          · subst e
            have h112 : (FI 112 t).toInt = 2 := by rw [← hv.2.2.2.1]; exact hk
            rcases hq.2.2 with y | ⟨-, y | y⟩
            · exact y.1
            · omega
            · omega
        exact ⟨_, _, _, _, _, _, h, Nat.le_refl _, brf, Or.inl ⟨V, l_tx_0 htM hK, hv.1, hd, t, htM, hz⟩⟩
      · rw [s_goes'] at h2
        have hk : (FI 110 8).toInt ≠ 2 := fun hh => h2 (Or.inr hh)
        have hK : K t ≠ 0 := by
          rcases s_kd hq hv with ⟨-, -, k0, -⟩ | ⟨e, -, -⟩
          · exact k0
          · subst e
            have h112 : (FI 112 t).toInt ≠ 2 := by rw [← hv.2.2.2.1]; exact hk
            rcases hq.2.2 with y | ⟨y, -⟩
            · exact absurd y.2.1 h112
            · omega
        obtain ⟨v3, n3, sl3, SH3, FI3, FL3, FR3, hr, h⟩ := h
        obtain ⟨n4, sl4, SH4, F4, L4, R4, e, nn, bd, res⟩ := s_decl hlo hvc hQ hq hm hv hd hr
        cases e
        rcases res with ⟨t2, V2, ls, ht2, w2, d2⟩ | ⟨ls, ft⟩
        · have hq3 : q_tk K W M FI3 FL3 := q_fr hq ⟨by funext k; exact bd.2.2.1 112 k (by omega) (by omega) (by omega), bd.2.2.1 111 4 (by omega) (by omega) (by omega), by funext k; exact bd.2.2.2.1 113 k (by omega) (by omega)⟩
          have hm3 : q_nm K W M X N FI3 FR3 := nm_fr2 hm (by funext k; exact bd.2.2.1 19 k (by omega) (by omega) (by omega)) (by funext k; exact bd.2.2.1 114 k (by omega) (by omega) (by omega)) (by funext k; exact bd.2.2.1 115 k (by omega) (by omega) (by omega)) (bd.2.2.2.2.1 111 5 (by omega))
          have hz2 : (lp_fl V2).length ≤ 4 * P t2 := by
            obtain ⟨a, ls⟩ := ls
            have := (lp_st_P hP (ls a (Nat.le_refl _))).2
            omega
          obtain ⟨n5, sl5, SH5, F5, L5, R5, h5, nn5, bd5, res⟩ := ih _ n3 sl3 SH3 FI3 FL3 FR3 v s t2 (i + 1) V2 h bd.2.1 hq3 hm3 w2 d2 (by rw [i_add hl2 (by decide : ((1 : Int32)).toInt = 1) (by omega) (by omega)]; omega) (by omega) hz2
          refine ⟨_, _, _, _, _, _, h5, by omega, b_cd_t bd bd5, ?_⟩
          rcases res with ⟨V5, r1, r2⟩ | ⟨r1, r2⟩
          · exact Or.inl ⟨V5, l_tx_s htM hK ls ht2 r1, r2⟩
          · exact Or.inr ⟨l_tx_s htM hK ls ht2 r1, r2⟩
        · have h52 : RX11_compile_52 n3 sl3 SH3 FI3 FL3 FR3 v s := by
            cases g with
            | zero => exact h.elim
            | succ g =>
              rcases h with ⟨-, h⟩ | ⟨-, h⟩
              · exact h
              · rcases h with ⟨-, h⟩ | ⟨hg, -⟩
                · exact h
                · exfalso
                  exact hg (s_goes'.mpr (Or.inl ft.1))
          exact ⟨_, _, _, _, _, _, h52, nn, bd, Or.inr ⟨l_tx_n htM hK ls, ft⟩⟩
end CM
/-- a variable that is coded -/
def d_cd (F : Nat → Nat → Int32) (R : Nat → Nat → Option Nat) (SH : Nat → Nat × Nat) (n x : Nat) (v : lp_V) : Prop := (F x 5).toInt = (v.2.2.1 : Int) ∧ (∃ nm, R x 0 = some nm ∧ 176 ≤ nm ∧ nm < n ∧ nm_ok F SH nm v.1) ∧ ∃ cc, R x 6 = some cc ∧ cc < n ∧ 176 ≤ cc ∧ (SH cc).2 = v.2.2.2.1.length ∧ v.2.2.2.1.length ≤ 600 ∧ ∀ k, k < v.2.2.2.1.length → (F cc k).toInt = v.2.2.2.1.getD k 0
/-- the variables that the class has -/
def v_cl (F : Nat → Nat → Int32) (R : Nat → Nat → Option Nat) (SH : Nat → Nat × Nat) (n : Nat) (V : List lp_V) : Prop := ∃ vc, R 0 11 = some vc ∧ vc < n ∧ (SH vc).2 = 12 ∧ (F 0 12).toInt = V.length ∧ V.length ≤ 12 ∧ ∀ (i : Nat) (v : lp_V), V[i]? = some v → ∃ x, R vc i = some x ∧ x < n ∧ d_cd F R SH n x v
/-- what the coder leaves alone, of the cells below lo -/
def b_ce (lo : Nat) (SH : Nat → Nat × Nat) (FI : Nat → Nat → Int32) (FL : Nat → Nat → Int64) (FR : Nat → Nat → Option Nat) (n2 : Nat) (SH2 : Nat → Nat × Nat) (F2 : Nat → Nat → Int32) (L2 : Nat → Nat → Int64) (R2 : Nat → Nat → Option Nat) : Prop := lo ≤ n2 ∧ h_S n2 SH2 ∧ (∀ c k, c < lo → c ≠ 119 → c ≠ 120 → F2 c k = FI c k) ∧ (∀ c k, c < lo → L2 c k = FL c k) ∧ (∀ c k, c < lo → R2 c k = FR c k) ∧ (∀ c, c < lo → SH2 c = SH c)
theorem b_ce_t {lo n1 n2 : Nat} {SH SH1 SH2 : Nat → Nat × Nat} {FI F1 F2 : Nat → Nat → Int32} {FL L1 L2 : Nat → Nat → Int64} {FR R1 R2 : Nat → Nat → Option Nat} (h : b_ce lo SH FI FL FR n1 SH1 F1 L1 R1) (h2 : b_ce lo SH1 F1 L1 R1 n2 SH2 F2 L2 R2) : b_ce lo SH FI FL FR n2 SH2 F2 L2 R2 :=
  ⟨h2.1, h2.2.1, fun c k g1 g2 g3 => (h2.2.2.1 c k g1 g2 g3).trans (h.2.2.1 c k g1 g2 g3), fun c k g1 => (h2.2.2.2.1 c k g1).trans (h.2.2.2.1 c k g1), fun c k g1 => (h2.2.2.2.2.1 c k g1).trans (h.2.2.2.2.1 c k g1), fun c g1 => (h2.2.2.2.2.2 c g1).trans (h.2.2.2.2.2 c g1)⟩
def v_ok (v : lp_V) : Prop := v.2.2.2.2 = false ∧ v.2.2.2.1.length ≤ 600
theorem v_is_r {F : Nat → Nat → Int32} {L : Nat → Nat → Int64} {R : Nat → Nat → Option Nat} {SH : Nat → Nat × Nat} {n x m : Nat} {C : List Int} {b : Bool} (h : v_is F L R SH n x m C b) : (F x 5).toInt = (m : Int) := by
  rcases h with ⟨y1, y2, -⟩ | ⟨Q, -, -, -, y4, -⟩
  · rw [y2, y1]; rfl
  · exact y4
theorem d_cd_fr {F F2 : Nat → Nat → Int32} {R R2 : Nat → Nat → Option Nat} {SH S2 : Nat → Nat × Nat} {n n2 x : Nat} {v : lp_V} (h : d_cd F R SH n x v) (hx : 176 ≤ x ∧ x < n) (h0 : ∀ q k, 119 ≠ q → 120 ≠ q → q < n → F2 q k = F q k) (h2 : ∀ k, R2 x k = R x k) (h3 : ∀ q, q < n → S2 q = SH q) (hn : n ≤ n2) : d_cd F2 R2 S2 n2 x v := by
  obtain ⟨y1, ⟨nm, z1, z0, z2, z3⟩, cc, w1, w2, w3, w4, w5, w6⟩ := h
  exact ⟨by rw [h0 x 5 (by omega) (by omega) hx.2]; exact y1, ⟨nm, by rw [h2 0]; exact z1, z0, by omega, nm_fr z3 (by funext k; exact h0 nm k (by omega) (by omega) z2) (h3 nm z2)⟩, cc, by rw [h2 6]; exact w1, by omega, w3, by rw [h3 cc w2]; exact w4, w5, fun k hk => by rw [h0 cc k (by omega) (by omega) w2]; exact w6 k hk⟩
section CL
variable {vc : Nat} {V : List lp_V} {xs ns : Nat → Nat}
/-- a fault among the variables -/
theorem s_71f {g n sl : Nat} {SH : Nat → Nat × Nat} {FI : Nat → Nat → Int32} {FL : Nat → Nat → Int64} {FR : Nat → Nat → Option Nat} {l2 l3 l4 v : Int32} {s : hS} (h0 : l2.toInt ≠ 0) (h : GX11_compile_71 g l2 l3 l4 n sl SH FI FL FR v s) : RX11_compile_136 l2 l3 n sl SH FI FL FR v s := by
  cases g with
  | zero => exact h.elim
  | succ g =>
    rcases h with ⟨-, h⟩ | ⟨-, h⟩
    · rcases h with ⟨hz, -⟩ | ⟨-, h⟩
      · exact absurd hz h0
      · exact h
    · exact h
theorem s_71 {lo : Nat} (hlo : 176 ≤ lo) (hvc : lo ≤ vc) (hB : ∀ v, v ∈ V → v.2.2.2.1.length ≤ 100000) : ∀ (g : Nat) (l2 l3 l4 : Int32) (n sl : Nat) (SH : Nat → Nat × Nat) (FI : Nat → Nat → Int32) (FL : Nat → Nat → Int64) (FR : Nat → Nat → Option Nat) (v : Int32) (s : hS) (i : Nat), GX11_compile_71 g l2 l3 l4 n sl SH FI FL FR v s → h_S n SH → FR 110 2 = some vc → vc < n → (FI 110 3).toInt = V.length → V.length ≤ 12 → d_xs FI FL FR SH n vc xs ns V → l2.toInt = 0 → l4.toInt = i → i ≤ V.length → (∀ (j : Nat) (v : lp_V), j < i → V[j]? = some v → v_ok v ∧ d_cd FI FR SH n (xs j) v) → ∃ l2' l3' n2 sl2 SH2 F2 L2 R2, RX11_compile_136 l2' l3' n2 sl2 SH2 F2 L2 R2 v s ∧ b_ce lo SH FI FL FR n2 SH2 F2 L2 R2 ∧ n ≤ n2 ∧ ((l2'.toInt = 0 ∧ (∀ x, x ∈ V → v_ok x) ∧ (∀ k, R2 vc k = FR vc k) ∧ SH2 vc = SH vc ∧ ∀ (j : Nat) (v : lp_V), V[j]? = some v → d_cd F2 R2 SH2 n2 (xs j) v) ∨ (l2'.toInt ≠ 0 ∧ ∃ x, x ∈ V ∧ ¬ v_ok x)) := by
  intro g
  induction g with
  | zero => intro l2 l3 l4 n sl SH FI FL FR v s i h; exact h.elim
  | succ g ih =>
    intro l2 l3 l4 n sl SH FI FL FR v s i h hQ hr hvn hc h12 hx h2 h4 hi hcd
    have h176 := hQ.1
    rcases h with ⟨hlt, h⟩ | ⟨hlt, h⟩
    · have hil : i < V.length := by omega
      rcases h with ⟨-, h⟩ | ⟨hn, -⟩
      · obtain ⟨c3, e3, -, v3, n3, sl3, SH3, FI3, FL3, FR3, hk, c5, e5, c6, e6, h⟩ := h
        rw [hr] at e3
        cases e3
        have em : l4.toInt.toNat = i := by omega
        have hvi : V[i]? = some V[i] := List.getElem?_eq_getElem hil
        obtain ⟨y1, y2, y3, y4⟩ := hx i V[i] hvi
        rw [em, y1] at hk e5 e6
        cases e5
        cases e6
        have x1 := y4.1
        have x2 := y4.2.1
        obtain ⟨nm, z1, z2, z3, z4⟩ := y4.2.2.2.2.2.1
        obtain ⟨F1, fr, res⟩ := c_code hQ (by omega) y4.2.2.1 y4.2.2.2.1 y4.2.2.2.2.1 (v_is_bd y4.2.2.2.2.2.2 (hB _ (List.mem_of_getElem? hvi))) hk
        rcases res with ⟨bad, rfl, e⟩ | ⟨good, rfl, sl4, SH4, F4, L4, R4, e, k1, k2, k3, k4, k5, k6⟩
        · cases e
          rcases h with ⟨-, h⟩ | ⟨hn, -⟩
          · obtain ⟨c8, e8, h⟩ := h
            have h136 := s_71f (by decide) h
            refine ⟨_, _, _, _, _, _, _, _, h136, ⟨by omega, hQ, fun c k g1 g2 g3 => fr c k g2 g3, fun _ _ _ => rfl, fun c k g1 => by rw [h_up_nc (by omega)], fun _ _ => rfl⟩, Nat.le_refl _, Or.inr ⟨by decide, V[i], List.mem_of_getElem? hvi, fun hh => ?_⟩⟩
            rcases bad with bad | bad
            · rw [hh.1] at bad; cases bad
            · have := hh.2; omega
          · exfalso
            exact hn h_up_eq
        · cases e
          rcases h with ⟨hn, -⟩ | ⟨-, h⟩
          · exfalso
            rw [h_up_eq] at hn
            cases hn
          · have vok : v_ok V[i] := by
              constructor
              · cases eb : (V[i]).2.2.2.2 with
                | false => rfl
                | true => exact absurd (Or.inl eb) good
              · omega
            have g0 : ∀ q k, 119 ≠ q → 120 ≠ q → q < n → FI3 q k = FI q k := fun q k w1 w2 w3 => by rw [k4 q (by omega)]; exact fr q k (by omega) (by omega)
            have g2 : ∀ q k, q < n → ¬ (q = xs i ∧ k = 6) → h_up FR3 (xs i) 6 (some n) q k = FR q k := fun q k w3 w4 => by rw [h_up_x w4, k6 q (by omega)]
            have bce : b_ce lo SH FI FL FR (n + 1) SH3 FI3 FL3 (h_up FR3 (xs i) 6 (some n)) := ⟨by omega, ⟨by omega, fun q hq => (k3 q (by omega)).trans (hQ.2 q hq)⟩, fun c k w1 w2 w3 => g0 c k (by omega) (by omega) (by omega), fun c k w1 => by rw [k5 c (by omega)], fun c k w1 => g2 c k (by omega) (by omega), fun c w1 => k3 c (by omega)⟩
            have hx2 : d_xs FI3 FL3 (h_up FR3 (xs i) 6 (some n)) SH3 (n + 1) vc xs ns V := by
              intro j v' hj
              obtain ⟨p1, p2, p3, p4⟩ := hx j v' hj
              have q1 := p4.1
              have q2 := p4.2.1
              refine ⟨by rw [g2 vc j hvn (by omega)]; exact p1, by omega, p3, d_va_fr p4 (fun q k w1 w2 => g0 q k (by omega) (by omega) (by omega)) (fun q k w1 w2 => by rw [k5 q (by omega)]) (fun q k w1 w2 w3 => ?_) (fun q w1 w2 => k3 q (by omega))⟩
              rcases Nat.lt_trichotomy i j with hij | hij | hij
              · have := p3 i hij
                exact g2 q k (by omega) (by omega)
              · subst hij
                exact g2 q k (by omega) w3
              · have := y3 j hij
                exact g2 q k (by omega) (by omega)
            obtain ⟨l2', l3', n5, sl5, SH5, F5, L5, R5, h5, b5, nn5, res⟩ := ih l2 l3 _ (n + 1) sl3 SH3 FI3 FL3 _ v s (i + 1) h bce.2.1 (by rw [g2 110 2 (by omega) (by omega)]; exact hr) (by omega) (by rw [g0 110 3 (by omega) (by omega) (by omega)]; exact hc) h12 hx2 h2 (by rw [i_add h4 (by decide : ((1 : Int32)).toInt = 1) (by omega) (by omega)]; omega) (by omega) (fun j v' hj hv' => by
              obtain ⟨p1, p2, p3, p4⟩ := hx j v' hv'
              have q1 := p4.1
              have q2 := p4.2.1
              obtain ⟨nm', w1, w2, w3, w4⟩ := p4.2.2.2.2.2.1
              by_cases e : j = i
              · subst e
                rw [hvi] at hv'
                cases hv'
                refine ⟨vok, by rw [g0 (xs j) 5 (by omega) (by omega) (by omega)]; exact v_is_r y4.2.2.2.2.2.2, ⟨nm, by rw [h_up_ne (by decide), k6 (xs j) (by omega)]; exact z1, by omega, by omega, nm_fr z4 (by funext k; exact g0 nm k (by omega) (by omega) (by omega)) (k3 nm (by omega))⟩, n, h_up_eq, by omega, by omega, k1, vok.2, k2⟩
              · obtain ⟨o1, o2⟩ := hcd j v' (by omega) hv'
                have hne : xs j ≠ xs i := by
                  have := y3 j (by omega)
                  omega
                exact ⟨o1, d_cd_fr o2 ⟨by omega, by omega⟩ g0 (fun k => g2 (xs j) k (by omega) (by omega)) (fun q w => k3 q (by omega)) (by omega)⟩)
            refine ⟨l2', l3', _, _, _, _, _, _, h5, b_ce_t bce b5, by omega, ?_⟩
            rcases res with ⟨r1, r2, r3, r4, r5⟩ | res
            · exact Or.inl ⟨r1, r2, fun k => (r3 k).trans (g2 vc k hvn (by omega)), r4.trans (k3 vc (by omega)), r5⟩
            · exact Or.inr res
      · exact absurd h2 hn
    · have hie : i = V.length := by omega
      refine ⟨l2, l3, _, _, _, _, _, _, h, ⟨by omega, hQ, fun _ _ _ _ _ => rfl, fun _ _ _ => rfl, fun _ _ _ => rfl, fun _ _ => rfl⟩, Nat.le_refl _, Or.inl ⟨h2, fun x hx' => ?_, fun _ => rfl, rfl, fun j v' hj => ?_⟩⟩
      · obtain ⟨j, hj⟩ := List.mem_iff_getElem?.mp hx'
        have := (List.getElem?_eq_some_iff.mp hj).1
        exact (hcd j x (by omega) hj).1
      · have := (List.getElem?_eq_some_iff.mp hj).1
        exact (hcd j v' (by omega) hj).2
end CL
/-- the end: what is told, what is kept -/
theorem s_136 {n sl : Nat} {SH : Nat → Nat × Nat} {FI : Nat → Nat → Int32} {FL : Nat → Nat → Int64} {FR : Nat → Nat → Option Nat} {l2 l3 v : Int32} {s : hS} (h : RX11_compile_136 l2 l3 n sl SH FI FL FR v s) : ∃ F2, (∀ c k, c ≠ 21 → F2 c k = FI c k) ∧ ((l2.toInt = 0 ∧ v = FI 110 3 ∧ s = (n, sl, SH, h_up F2 0 12 (FI 110 3), FL, h_up FR 0 11 (FR 110 2))) ∨ (l2.toInt ≠ 0 ∧ v = -1 ∧ s = (n, sl, SH, F2, FL, FR))) := by
  obtain ⟨v0, n0, sl0, SH0, FI0, FL0, FR0, ht, h⟩ := h
  have hX : ∃ F2, (∀ c k, c ≠ 21 → F2 c k = FI c k) ∧ (n0, sl0, SH0, FI0, FL0, FR0) = (n, sl, SH, F2, FL, FR) := by
    obtain ⟨-, ht⟩ := ht
    rcases ht with ⟨-, -, -, -, -, e⟩ | ⟨-, -, -, -, -, e⟩
    · exact ⟨_, fun c k hc => by rw [h_up_nc hc, h_up_nc hc, h_up_nc hc, h_up_nc hc], e⟩
    · exact ⟨_, fun c k hc => by rw [h_up_nc hc, h_up_nc hc, h_up_nc hc, h_up_nc hc], e⟩
  obtain ⟨F2, hF, e⟩ := hX
  cases e
  refine ⟨FI0, hF, ?_⟩
  have e3 : FI0 110 3 = FI 110 3 := hF 110 3 (by decide)
  rcases h with ⟨h0, rfl, rfl⟩ | ⟨h0, rfl, rfl⟩
  · rw [e3]
    exact Or.inl ⟨h0, rfl, rfl⟩
  · exact Or.inr ⟨h0, rfl, rfl⟩
/-- what compile leaves alone, of the cells below n -/
def b_cp (n : Nat) (SH : Nat → Nat × Nat) (FI : Nat → Nat → Int32) (FL : Nat → Nat → Int64) (FR : Nat → Nat → Option Nat) (n2 : Nat) (SH2 : Nat → Nat × Nat) (F2 : Nat → Nat → Int32) (L2 : Nat → Nat → Int64) (R2 : Nat → Nat → Option Nat) : Prop := n ≤ n2 ∧ h_S n2 SH2 ∧ (∀ c k, c < n → ¬ (c = 0 ∧ (k = 9 ∨ k = 12)) → ¬ (c = 21 ∨ (110 ≤ c ∧ c ≤ 120)) → F2 c k = FI c k) ∧ (∀ c k, c < n → ¬ (110 ≤ c ∧ c ≤ 115) → L2 c k = FL c k) ∧ (∀ c k, c < n → ¬ (c = 0 ∧ k = 11) → ¬ (110 ≤ c ∧ c ≤ 111) → R2 c k = FR c k) ∧ (∀ c, c < n → SH2 c = SH c)
/-- THE CLASS'S COMPILE: the variables that lp_tx says, or none -/
theorem lp_fl_mem {V : List lp_V} {v : lp_V} (h : v ∈ V) : v.2.2.2.1.length ≤ (lp_fl V).length := by
  induction V with
  | nil => cases h
  | cons a V ih =>
    have e : lp_fl (a :: V) = a.2.2.2.1 ++ lp_fl V := by simp [lp_fl]
    rw [e, List.length_append]
    rcases List.mem_cons.mp h with rfl | h
    · omega
    · have := ih h
      omega
theorem s_compile {n sl N T : Nat} {P : Nat → Nat} {X K W : Nat → Int} {SH : Nat → Nat × Nat} {FI : Nat → Nat → Int32} {FL : Nat → Nat → Int64} {FR : Nat → Nat → Option Nat} {v : Int32} {s : hS} (hQ : h_S n SH) (h : RX11_compile n sl SH FI FL FR v s) (ha : (FI 0 9).toInt = N) (hN : N ≤ 1000) (hX : ∀ i, i < N → (FI 19 i).toInt = X i ∧ 0 ≤ X i ∧ X i ≤ 255) (hK : ∀ i x, (t_tl X N 1001 0)[i]? = some x → K i = x.1 ∧ W i = x.2.1) (hk : tk_ok K W P T) (hT : (t_tl X N 1001 0).length = T + 1) : ∃ n2 sl2 SH2 F2 L2 R2, s = (n2, sl2, SH2, F2, L2, R2) ∧ b_cp n SH FI FL FR n2 SH2 F2 L2 R2 ∧ (F2 0 9).toInt = 0 ∧ ∃ F0, ∀ f, F0 ≤ f → match lp_tx K W f 1100 0 [] with
    | none => v = -1 ∧ F2 0 12 = FI 0 12 ∧ R2 0 11 = FR 0 11
    | some V => ((∃ x, x ∈ V ∧ ¬ v_ok x) ∧ v = -1 ∧ F2 0 12 = FI 0 12 ∧ R2 0 11 = FR 0 11) ∨ ((∀ x, x ∈ V → v_ok x) ∧ v.toInt = V.length ∧ v_cl F2 R2 SH2 n2 V) := by
  have h176 := hQ.1
  obtain ⟨v1, n1, sl1, SH1, FI1, FL1, FR1, hb, g, h⟩ := h
  obtain ⟨M, sl2, SH2, F2, L2, R2, e, hMN, hMl, hQ1, hq, hm, hv, hd, f1, l1, r1, s1⟩ := s_begin (K := K) (W := W) (X := X) (N := N) hQ hb ha hN (fun i hi => by rw [h_up_nc (by decide)]; exact hX i hi) hK
  cases e
  have hM := hq.1
  obtain ⟨n3, sl3, SH3, F3, L3, R3, h3, nn3, bd3, res⟩ := s_text hk.2.1 h176 (Nat.le_refl n) ha hMN hN g _ (n + 1) sl1 SH1 FI1 FL1 FR1 v s 0 0 [] h hQ1 hq hm hv hd (by decide) (Nat.zero_le _) (Nat.zero_le _)
  have f09 : FI1 0 9 = 0 := by rw [f1 0 9 (by omega) (by omega), h_up_eq]
  obtain ⟨g3, h3⟩ := h3
  rcases res with ⟨V, ⟨a, lt⟩, h5, d3, t', ht', hz'⟩ | ⟨⟨a, lt⟩, ft⟩
  · obtain ⟨d1, d2, dn, d4, d5, d6, xs, ns, d7⟩ := d3
    have hBV : ∀ v, v ∈ V → v.2.2.2.1.length ≤ 100000 := fun v hv' => by
      have x1 := lp_fl_mem hv'
      have x2 := tk_P_le hk.2.1 hk.2.2.2.2.1 (i := t') (j := T) (by omega) (Nat.le_refl _)
      have x3 := hk.2.2.2.2.2
      omega
    obtain ⟨l2', l3', n4, sl4, SH4, F4, L4, R4, h4, b4, nn4, res⟩ := s_71 (vc := n) (lo := n) h176 (Nat.le_refl n) hBV g3 _ _ _ n3 sl3 SH3 F3 L3 R3 v s 0 h3 bd3.2.1 d1 dn d5 d6 d7 h5 (by decide) (Nat.zero_le _) (fun j v hj => by omega)
    obtain ⟨F5, hF5, r5⟩ := s_136 h4
    have fz : ∀ c k, c < n → ¬ (c = 21 ∨ (110 ≤ c ∧ c ≤ 120)) → F5 c k = FI1 c k := fun c k y1 y2 => by rw [hF5 c k (by omega), b4.2.2.1 c k y1 (by omega) (by omega), bd3.2.2.1 c k y1 (by omega) (by omega)]
    have lz : ∀ c k, c < n → c ≠ 110 → L4 c k = FL1 c k := fun c k y1 y2 => by rw [b4.2.2.2.1 c k y1, bd3.2.2.2.1 c k y1 y2]
    have rz : ∀ c k, c < n → R4 c k = FR1 c k := fun c k y1 => by rw [b4.2.2.2.2.1 c k y1, bd3.2.2.2.2.1 c k y1]
    have sz : ∀ c, c < n → SH4 c = SH c := fun c y1 => by rw [b4.2.2.2.2.2 c y1, bd3.2.2.2.2.2 c y1, s1 c y1]
    rcases r5 with ⟨z0, rfl, rfl⟩ | ⟨z0, rfl, rfl⟩
    · rcases res with ⟨-, p2, p3, p4, p5⟩ | ⟨p1, -⟩
      · refine ⟨_, _, _, _, _, _, rfl, ⟨by omega, b4.2.1, fun c k y1 y2 y3 => ?_, fun c k y1 y2 => by rw [lz c k y1 (by omega)]; exact l1 c k y1 y2, fun c k y1 y2 y3 => ?_, sz⟩, ?_, a, fun f hf => ?_⟩
        · rw [h_up_x (by omega), fz c k y1 y3, f1 c k y1 (by omega), h_up_x (by omega)]
        · rw [h_up_x y2, rz c k y1]; exact r1 c k y1 y3
        · rw [h_up_ne (by decide), fz 0 9 (by omega) (by omega), f09]; decide
        · rw [lt f 1100 hf (by omega)]
          have e3 : (F4 110 3).toInt = V.length := by rw [b4.2.2.1 110 3 (by omega) (by omega) (by omega)]; exact d5
          have e2 : R4 110 2 = some n := by rw [b4.2.2.2.2.1 110 2 (by omega)]; exact d1
          refine Or.inr ⟨p2, e3, n, by rw [h_up_eq]; exact e2, by omega, by rw [p4]; exact d4, by rw [h_up_eq]; exact e3, d6, fun i v' hv' => ?_⟩
          obtain ⟨q1, q2, q3, q4⟩ := d7 i v' hv'
          have q5 := q4.1
          have q6 := q4.2.1
          obtain ⟨nm, w1, w2, w3, w4⟩ := q4.2.2.2.2.2.1
          refine ⟨xs i, by rw [h_up_nc (by omega), p3 i]; exact q1, by omega, ?_⟩
          obtain ⟨o1, ⟨nm2, u1, hnm2, u2, u3⟩, cc, t1, t2, t3, t4, t5, t6⟩ := p5 i v' hv'
          -- 21 and 0 are none of these cells
          have ge : ∀ q k, 176 ≤ q → h_up F5 0 12 (F4 110 3) q k = F4 q k := fun q k hq' => by rw [h_up_nc (by omega)]; exact hF5 q k (by omega)
          exact ⟨by rw [ge (xs i) 5 (by omega)]; exact o1, ⟨nm2, by rw [h_up_nc (by omega)]; exact u1, hnm2, u2, nm_fr u3 (by funext k; exact ge nm2 k hnm2) rfl⟩, cc, by rw [h_up_nc (by omega)]; exact t1, t2, t3, t4, t5, fun k hk => by rw [ge cc k t3]; exact t6 k hk⟩
      · exact absurd z0 p1
    · rcases res with ⟨p1, -⟩ | ⟨-, p2⟩
      · exact absurd p1 z0
      · refine ⟨_, _, _, _, _, _, rfl, ⟨by omega, b4.2.1, fun c k y1 y2 y3 => ?_, fun c k y1 y2 => by rw [lz c k y1 (by omega)]; exact l1 c k y1 y2, fun c k y1 y2 y3 => by rw [rz c k y1]; exact r1 c k y1 y3, sz⟩, ?_, a, fun f hf => ?_⟩
        · rw [fz c k y1 y3, f1 c k y1 (by omega), h_up_x (by omega)]
        · rw [fz 0 9 (by omega) (by omega), f09]; decide
        · rw [lt f 1100 hf (by omega)]
          exact Or.inl ⟨p2, rfl, by rw [fz 0 12 (by omega) (by omega), f1 0 12 (by omega) (by omega), h_up_ne (by decide)], by rw [rz 0 11 (by omega)]; exact r1 0 11 (by omega) (by omega)⟩
  · have h136 := s_71f ft.1 h3
    obtain ⟨F5, hF5, r5⟩ := s_136 h136
    rcases r5 with ⟨z0, -, -⟩ | ⟨-, rfl, rfl⟩
    · exact absurd z0 ft.1
    · have fz : ∀ c k, c < n → ¬ (c = 21 ∨ (110 ≤ c ∧ c ≤ 120)) → F5 c k = FI1 c k := fun c k y1 y2 => by rw [hF5 c k (by omega), bd3.2.2.1 c k y1 (by omega) (by omega)]
      refine ⟨_, _, _, _, _, _, rfl, ⟨by omega, bd3.2.1, fun c k y1 y2 y3 => ?_, fun c k y1 y2 => by rw [bd3.2.2.2.1 c k y1 (by omega)]; exact l1 c k y1 y2, fun c k y1 y2 y3 => by rw [bd3.2.2.2.2.1 c k y1]; exact r1 c k y1 y3, fun c y1 => by rw [bd3.2.2.2.2.2 c y1, s1 c y1]⟩, ?_, a, fun f hf => ?_⟩
      · rw [fz c k y1 y3, f1 c k y1 (by omega), h_up_x (by omega)]
      · rw [fz 0 9 (by omega) (by omega), f09]; decide
      · rw [lt f 1100 hf (by omega)]
        exact ⟨rfl, by rw [fz 0 12 (by omega) (by omega), f1 0 12 (by omega) (by omega), h_up_ne (by decide)], by rw [bd3.2.2.2.2.1 0 11 (by omega)]; exact r1 0 11 (by omega) (by omega)⟩
end
section
/-! BOTH COMPILES: one answer, the same variables. -/
theorem r_compile {n sl N : Nat} {X : Nat → Int} {SH : Nat → Nat × Nat} {FI : Nat → Nat → Int32} {FL : Nat → Nat → Int64} {FR : Nat → Nat → Option Nat} {v : Int32} {s : hS} (hS : h_S n SH) (h : RX12_compile n sl SH FI FL FR v s) (hx : x_vw FI X N) (hr : rl_t (FI 149) (FL 150)) : ∃ K W P T, (t_tl X N 1001 0).length = T + 1 ∧ tk_ok K W P T ∧ (∀ i x, (t_tl X N 1001 0)[i]? = some x → K i = x.1 ∧ W i = x.2.1) ∧ ∀ f, 12 * T + 20 < f → match lp_tx K W f 1100 0 [] with
    | none => v = -1 ∧ u_eq FI s.2.2.2.1 FL s.2.2.2.2.1
    | some V => ((∃ x, x ∈ V ∧ ¬ (x.2.2.2.2 = false ∧ x.2.2.2.1.length ≤ 600)) ∧ v = -1 ∧ u_eq FI s.2.2.2.1 FL s.2.2.2.2.1) ∨ ((∀ x, x ∈ V → x.2.2.2.2 = false ∧ x.2.2.2.1.length ≤ 600) ∧ v.toInt = V.length ∧ u_vw s.2.2.2.1 s.2.2.2.2.1 K W T V) := by
  obtain ⟨v1, n1, sl1, SH1, FI1, FL1, FR1, ht, h⟩ := h
  have kt := kX12_tokens ht
  have e1 : n1 = n := kt.1
  have e2 : SH1 = SH := kt.2.2.1
  subst e1 e2
  have hx2 : x_vw (h_up FI 121 0 0) X N := ⟨by rw [h_up_x (by decide)]; exact hx.1, hx.2.1, by rw [h_up_nc (by decide)]; exact hx.2.2⟩
  obtain ⟨P, T, r1, r2, r3, r4⟩ := t_tokens ht hx2 (by rw [h_up_nc (by decide)]; exact hr)
  refine ⟨_, _, P, T, r1, r2, fun i x hi => ⟨(r4 i x hi).1, (r4 i x hi).2.1⟩, fun f hf => ?_⟩
  have ux : u_eq FI (h_up FI 121 0 0) FL FL := ⟨h_up_nc (by decide), h_up_nc (by decide), h_up_nc (by decide), h_up_nc (by decide), h_up_nc (by decide), rfl, rfl, h_up_x (by decide)⟩
  have u1 : u_eq (h_up FI 121 0 0) FI1 FL FL1 := u_kq kt (by decide)
  have u2 : u_eq FI1 (h_up (h_up (h_up (h_up (h_up FI1 121 13 ((0 : Int32))) 121 68 ((0 : Int32))) 121 69 ((0 : Int32))) 121 78 ((0 : Int32))) 121 73 ((0 : Int32))) FL1 FL1 := by
    refine ⟨?_, ?_, ?_, ?_, ?_, rfl, rfl, ?_⟩
    · rw [h_up_nc (by decide), h_up_nc (by decide), h_up_nc (by decide), h_up_nc (by decide), h_up_nc (by decide)]
    · rw [h_up_nc (by decide), h_up_nc (by decide), h_up_nc (by decide), h_up_nc (by decide), h_up_nc (by decide)]
    · rw [h_up_nc (by decide), h_up_nc (by decide), h_up_nc (by decide), h_up_nc (by decide), h_up_nc (by decide)]
    · rw [h_up_nc (by decide), h_up_nc (by decide), h_up_nc (by decide), h_up_nc (by decide), h_up_nc (by decide)]
    · rw [h_up_nc (by decide), h_up_nc (by decide), h_up_nc (by decide), h_up_nc (by decide), h_up_nc (by decide)]
    · rw [h_up_x (by decide), h_up_x (by decide), h_up_x (by decide), h_up_x (by decide), h_up_x (by decide)]
  have ut := u_tr ux (u_tr u1 u2)
  have q := c_compile (o := ((h_up (h_up (h_up (h_up (h_up FI1 121 13 ((0 : Int32))) 121 68 ((0 : Int32))) 121 69 ((0 : Int32))) 121 78 ((0 : Int32))) 121 73 ((0 : Int32))) 121 71).toInt) r2 hf h hS ⟨⟨by rw [h_up_nc (by decide), h_up_nc (by decide), h_up_nc (by decide), h_up_nc (by decide), h_up_nc (by decide)], rfl, by rw [h_up_x (by decide), h_up_x (by decide), h_up_x (by decide), h_up_eq]; rfl, Nat.zero_le _⟩, by rw [h_up_x (by decide), h_up_x (by decide), h_up_eq]; decide, rfl, by rw [h_up_eq]; rfl, fun _ i hi => by rw [List.length_nil] at hi; omega⟩ (by rw [h_up_x (by decide), h_up_eq]; decide) (by rw [h_up_x (by decide), h_up_x (by decide), h_up_x (by decide), h_up_x (by decide), h_up_x (by decide)]; exact r3)
  generalize lp_tx (kf (FI1 149)) (wf (FL1 150)) f 1100 0 [] = r at q
  match r, q with
  | none, q => exact ⟨q.1, u_tr ut q.2⟩
  | some V, q =>
    rcases q with ⟨q1, q2, q3⟩ | q
    · exact Or.inl ⟨q1, q2, u_tr ut q3⟩
    · exact Or.inr q
/-- the same variables on both sides -/
def uv_eq (F : Nat → Nat → Int32) (L : Nat → Nat → Int64) (R : Nat → Nat → Option Nat) (SH : Nat → Nat × Nat) (n : Nat) : Prop := ∃ K W T V, u_vw F L K W T V ∧ v_cl F R SH n V
end
section
/-! THE TAPE on both sides. -/
/-- a total contract and what a run says backwards, together -/
def h_sm (base : Nat) (s s2 : hS) : Prop := ∃ h, h_Rel base s h ∧ h_Rel base s2 h
theorem hw_pw {ρ : Type} {inj : ρ → Option Value} {sk : xK} {base d j pc : Nat} {X : Option (Nat × Nat × (Nat → Int32))} {L : xL} {st : List Value} {s : hS} {Φ : Option Value → hS → Prop} {Ψ : ρ → hS → Prop} (hh : hw sk base d X j pc L st s Φ) (hp : ∀ N, pw inj sk base N d X j pc L st s Ψ) : hw sk base d X j pc L st s (fun r s' => Φ r s' ∧ ∃ x s2, r = inj x ∧ Ψ x s2 ∧ h_sm base s' s2) := by
  intro h hR
  obtain ⟨r, h', ⟨n, hg⟩, s', hR', hΦ⟩ := hh h hR
  obtain ⟨x, s2, e, hR2, -, hΨ⟩ := hp n n (Nat.le_refl _) h r h' hR hg
  exact ⟨r, h', ⟨n, hg⟩, s', hR', hΦ, x, s2, e, hΨ, h', hR', hR2⟩
/-- an int[] is the same in both -/
theorem h_sm_ia {base : Nat} {n sl n2 sl2 : Nat} {SH SH2 : Nat → Nat × Nat} {FI F2 : Nat → Nat → Int32} {FL L2 : Nat → Nat → Int64} {FR R2 : Nat → Nat → Option Nat} (h : h_sm base (n, sl, SH, FI, FL, FR) (n2, sl2, SH2, F2, L2, R2)) {c z z2 : Nat} (hc : c < n) (h1 : SH c = (100, z)) (h2 : SH2 c = (100, z2)) : FI c = F2 c := by
  obtain ⟨H, ⟨a1, -, a3⟩, b1, -, b3⟩ := h
  have e1 := a3 c hc
  have e2 := b3 c (by show c < n2; have : H.length = n := a1; have : H.length = n2 := b1; omega)
  dsimp only at e1 e2
  rw [h_arr (k := 0) h1] at e1
  rw [h_arr (k := 0) h2] at e2
  rw [e1] at e2
  have e3 := Option.some.inj e2
  have e4 := Sum.inl.inj e3
  have e5 : (h_av base 0 (FI c) (FL c) (FR c)) = (h_av base 0 (F2 c) (L2 c) (R2 c)) := congrArg (fun q => q.2.2) e4
  exact Sum.inl.inj e5
/-- a byte of an int, from both sides -/
theorem fb_bv (x : BitVec 32) (k : Nat) (hk : k ≤ 24) : (x >>> k) &&& 255#32 = (x.sshiftRight k) &&& 255#32 := by
  apply BitVec.eq_of_getLsbD_eq
  intro i hi
  rw [BitVec.getLsbD_and, BitVec.getLsbD_and, BitVec.getLsbD_ushiftRight, BitVec.getLsbD_sshiftRight]
  by_cases h8 : i < 8
  · have h1 : ¬ 32 ≤ i := by omega
    simp [h1, show k + i < 32 by omega]
  · have h2 : (255#32).getLsbD i = false := by
      have : ∀ j : Fin 32, ¬ j.val < 8 → (255#32).getLsbD j.val = false := by decide
      exact this ⟨i, hi⟩ h8
    rw [h2, Bool.and_false, Bool.and_false]
theorem fb_24 (a : Int32) : ((a.toUInt32 >>> (((24 : Int32)).toUInt32 &&& Int32.toUInt32 31)).toInt32 &&& (255 : Int32)) = ((a >>> ((24 : Int32) &&& 31)) &&& (255 : Int32)) := by
  apply Int32.toBitVec_inj.mp
  exact fb_bv a.toBitVec 24 (by decide)
theorem fb_16 (a : Int32) : ((a.toUInt32 >>> (((16 : Int32)).toUInt32 &&& Int32.toUInt32 31)).toInt32 &&& (255 : Int32)) = ((a >>> ((16 : Int32) &&& 31)) &&& (255 : Int32)) := by
  apply Int32.toBitVec_inj.mp
  exact fb_bv a.toBitVec 16 (by decide)
theorem fb_8 (a : Int32) : ((a.toUInt32 >>> (((8 : Int32)).toUInt32 &&& Int32.toUInt32 31)).toInt32 &&& (255 : Int32)) = ((a >>> ((8 : Int32) &&& 31)) &&& (255 : Int32)) := by
  apply Int32.toBitVec_inj.mp
  exact fb_bv a.toBitVec 8 (by decide)
theorem fb_0 (a : Int32) : ((a.toUInt32 >>> (((0 : Int32)).toUInt32 &&& Int32.toUInt32 31)).toInt32 &&& (255 : Int32)) = ((a >>> ((0 : Int32) &&& 31)) &&& (255 : Int32)) := by
  apply Int32.toBitVec_inj.mp
  exact fb_bv a.toBitVec 0 (by decide)
def fb (a l : Int32) : Int32 := (a >>> (l &&& 31)) &&& (255 : Int32)
theorem fb_rg (a l : Int32) : 0 ≤ (fb a l).toInt ∧ (fb a l).toInt ≤ 255 := i_and (x := a >>> (l &&& 31)) (m := (255 : Int32)) (M := 255) (by decide) (by decide)
/-- four bytes behind the first N -/
def f_4 (f : Nat → Int32) (N : Nat) (a : Int32) : Nat → Int32 := va_up (va_up (va_up (va_up f N (fb a 24)) (N + 1) (fb a 16)) (N + 2) (fb a 8)) (N + 3) (fb a 0)
def f_20 (f : Nat → Int32) (N : Nat) (a b c d e : Int32) : Nat → Int32 := f_4 (f_4 (f_4 (f_4 (f_4 f N a) (N + 4) b) (N + 8) c) (N + 12) d) (N + 16) e
def fq_ok (f g : Nat → Int32) (N : Nat) : Prop := ∀ i, i < N → f i = g i ∧ 0 ≤ (f i).toInt ∧ (f i).toInt ≤ 255
theorem fq_ok_1 {f g : Nat → Int32} {N : Nat} {a l : Int32} (h : fq_ok f g N) : fq_ok (va_up f N (fb a l)) (va_up g N (fb a l)) (N + 1) := by
  intro i hi
  by_cases e : i = N
  · subst e
    rw [va_s, va_s]
    exact ⟨rfl, fb_rg a l⟩
  · rw [va_o e, va_o e]
    exact h i (by omega)
theorem fq_ok_4 {f g : Nat → Int32} {N : Nat} {a : Int32} (h : fq_ok f g N) : fq_ok (f_4 f N a) (f_4 g N a) (N + 4) := fq_ok_1 (fq_ok_1 (fq_ok_1 (fq_ok_1 h)))
theorem fq_ok_20 {f g : Nat → Int32} {N : Nat} {a b c d e : Int32} (h : fq_ok f g N) : fq_ok (f_20 f N a b c d e) (f_20 g N a b c d e) (N + 20) := fq_ok_4 (fq_ok_4 (fq_ok_4 (fq_ok_4 (fq_ok_4 h))))
section FD
variable {n sl : Nat} {SH : Nat → Nat × Nat} {FL : Nat → Nat → Int64} {FR : Nat → Nat → Option Nat}
theorem fq_row {FI : Nat → Nat → Int32} {c k d k2 : Nat} {x y : Int32} (h : c ≠ d) : h_up (h_up FI c k x) d k2 y c = va_up (FI c) k x := by
  rw [h_up_nc h, h_up_row]
/-- one turn of feedFour -/
theorem fq_turn {g N : Nat} {a l : Int32} {FI : Nat → Nat → Int32} {u : Unit} {s : hS} (h : GX11_feedFour_3 a (g + 1) l n sl SH FI FL FR u s) (hl : 0 ≤ l.toInt) (hN : (FI 0 9).toInt = N) (h1 : N < 1000) : ∃ F2, GX11_feedFour_3 a g (l + (-8 : Int32)) n sl SH F2 FL FR u s ∧ (F2 0 9).toInt = ((N + 1 : Nat) : Int) ∧ F2 19 = va_up (FI 19) N ((a.toUInt32 >>> (l.toUInt32 &&& Int32.toUInt32 31)).toInt32 &&& (255 : Int32)) := by
  rcases h with ⟨h0, -⟩ | ⟨-, h⟩
  · exfalso; omega
  · rcases h with ⟨-, -, h⟩ | ⟨h2, -⟩
    · have en : (FI 0 9).toInt.toNat = N := by omega
      rw [en] at h
      refine ⟨_, h, ?_, ?_⟩
      · rw [h_up_eq, i_add hN (by decide : ((1 : Int32)).toInt = 1) (by omega) (by omega)]; omega
      · exact fq_row (by decide)
    · exfalso
      rw [show ((1000 : Int32)).toInt = 1000 by decide] at h2
      omega
theorem fq_four {a : Int32} {N : Nat} {FI : Nat → Nat → Int32} {u : Unit} {s : hS} (h : RX11_feedFour a n sl SH FI FL FR u s) (hN : (FI 0 9).toInt = N) (h1 : N + 4 ≤ 1000) : ∃ F2, s = (n, sl, SH, F2, FL, FR) ∧ (F2 0 9).toInt = ((N + 4 : Nat) : Int) ∧ F2 19 = f_4 (FI 19) N a := by
  obtain ⟨g, h⟩ := h
  have z : ∀ g' : Nat, ∀ {l : Int32} {F : Nat → Nat → Int32}, GX11_feedFour_3 a g' l n sl SH F FL FR u s → ∃ g2, g' = g2 + 1 := by
    intro g' l F hh
    cases g' with
    | zero => exact hh.elim
    | succ g2 => exact ⟨g2, rfl⟩
  obtain ⟨g1, rfl⟩ := z g h
  obtain ⟨F1, h, n1, e1⟩ := fq_turn h (by decide) hN (by omega)
  have l1 : ((24 : Int32) + (-8 : Int32)) = 16 := by decide
  rw [l1] at h
  obtain ⟨g2, rfl⟩ := z g1 h
  obtain ⟨F2, h, n2, e2⟩ := fq_turn h (by decide) n1 (by omega)
  have l2 : ((16 : Int32) + (-8 : Int32)) = 8 := by decide
  rw [l2] at h
  obtain ⟨g3, rfl⟩ := z g2 h
  obtain ⟨F3, h, n3, e3⟩ := fq_turn h (by decide) n2 (by omega)
  have l3 : ((8 : Int32) + (-8 : Int32)) = 0 := by decide
  rw [l3] at h
  obtain ⟨g4, rfl⟩ := z g3 h
  obtain ⟨F4, h, n4, e4⟩ := fq_turn h (by decide) n3 (by omega)
  obtain ⟨g5, rfl⟩ := z g4 h
  rcases h with ⟨-, -, rfl⟩ | ⟨h0, -⟩
  · refine ⟨F4, rfl, n4, ?_⟩
    unfold f_4 fb
    rw [e4, e3, e2, e1, fb_24, fb_16, fb_8, fb_0]
  · exfalso
    exact h0 (by decide)
theorem fq_feed {a b c d e : Int32} {N : Nat} {FI : Nat → Nat → Int32} {v : Int32} {s : hS} (h : RX11_feed a b c d e n sl SH FI FL FR v s) (hN : (FI 0 9).toInt = N) (h0 : N ≤ 1000) : ∃ F2, s = (n, sl, SH, F2, FL, FR) ∧ F2 19 = (if N ≤ 980 then f_20 (FI 19) N a b c d e else FI 19) := by
  have e20 : ((FI 0 9) + (20 : Int32)).toInt = (N : Int) + 20 := i_add hN (by decide) (by omega) (by omega)
  have z : ((1000 : Int32)).toInt = 1000 := by decide
  rcases h with ⟨h1, rfl, rfl⟩ | ⟨h1, h⟩
  · rw [z, e20] at h1
    exact ⟨FI, rfl, by rw [if_neg (by omega)]⟩
  · rw [z, e20] at h1
    obtain ⟨v1, n1, sl1, SH1, FI1, FL1, FR1, k1, v2, n2, sl2, SH2, FI2, FL2, FR2, k2, v3, n3, sl3, SH3, FI3, FL3, FR3, k3, v4, n4, sl4, SH4, FI4, FL4, FR4, k4, v5, n5, sl5, SH5, FI5, FL5, FR5, k5, rfl, rfl⟩ := h
    obtain ⟨F1, x, m1, e1⟩ := fq_four k1 hN (by omega)
    cases x
    obtain ⟨F2, x, m2, e2⟩ := fq_four k2 m1 (by omega)
    cases x
    obtain ⟨F3, x, m3, e3⟩ := fq_four k3 m2 (by omega)
    cases x
    obtain ⟨F4, x, m4, e4⟩ := fq_four k4 m3 (by omega)
    cases x
    obtain ⟨F5, x, m5, e5⟩ := fq_four k5 m4 (by omega)
    cases x
    refine ⟨FI5, rfl, ?_⟩
    rw [if_pos (by omega), e5, e4, e3, e2, e1]
    rfl
/-- the reference's -/
theorem pq_turn {g N : Nat} {a l : Int32} {FI : Nat → Nat → Int32} {u : Unit} {s : hS} (h : GX12_puts_3 a (g + 1) l n sl SH FI FL FR u s) (hl : 0 ≤ l.toInt) (hN : (FI 121 13).toInt = N) (h1 : N < 1000) : ∃ F2, GX12_puts_3 a g (l + (-8 : Int32)) n sl SH F2 FL FR u s ∧ (F2 121 13).toInt = ((N + 1 : Nat) : Int) ∧ F2 126 = va_up (FI 126) N (fb a l) := by
  rcases h with ⟨h0, -⟩ | ⟨-, -, h⟩
  · exfalso; omega
  · have en : (FI 121 13).toInt.toNat = N := by omega
    rw [en] at h
    refine ⟨_, h, ?_, ?_⟩
    · rw [h_up_eq, i_add hN (by decide : ((1 : Int32)).toInt = 1) (by omega) (by omega)]; omega
    · exact fq_row (by decide)
theorem pq_four {a : Int32} {N : Nat} {FI : Nat → Nat → Int32} {u : Unit} {s : hS} (h : RX12_puts a n sl SH FI FL FR u s) (hN : (FI 121 13).toInt = N) (h1 : N + 4 ≤ 1000) : ∃ F2, s = (n, sl, SH, F2, FL, FR) ∧ (F2 121 13).toInt = ((N + 4 : Nat) : Int) ∧ F2 126 = f_4 (FI 126) N a := by
  obtain ⟨g, h⟩ := h
  have z : ∀ g' : Nat, ∀ {l : Int32} {F : Nat → Nat → Int32}, GX12_puts_3 a g' l n sl SH F FL FR u s → ∃ g2, g' = g2 + 1 := by
    intro g' l F hh
    cases g' with
    | zero => exact hh.elim
    | succ g2 => exact ⟨g2, rfl⟩
  obtain ⟨g1, rfl⟩ := z g h
  obtain ⟨F1, h, n1, e1⟩ := pq_turn h (by decide) hN (by omega)
  have l1 : ((24 : Int32) + (-8 : Int32)) = 16 := by decide
  rw [l1] at h
  obtain ⟨g2, rfl⟩ := z g1 h
  obtain ⟨F2, h, n2, e2⟩ := pq_turn h (by decide) n1 (by omega)
  have l2 : ((16 : Int32) + (-8 : Int32)) = 8 := by decide
  rw [l2] at h
  obtain ⟨g3, rfl⟩ := z g2 h
  obtain ⟨F3, h, n3, e3⟩ := pq_turn h (by decide) n2 (by omega)
  have l3 : ((8 : Int32) + (-8 : Int32)) = 0 := by decide
  rw [l3] at h
  obtain ⟨g4, rfl⟩ := z g3 h
  obtain ⟨F4, h, n4, e4⟩ := pq_turn h (by decide) n3 (by omega)
  obtain ⟨g5, rfl⟩ := z g4 h
  rcases h with ⟨-, -, rfl⟩ | ⟨h0, -⟩
  · refine ⟨F4, rfl, n4, ?_⟩
    unfold f_4
    rw [e4, e3, e2, e1]
  · exfalso
    exact h0 (by decide)
theorem pq_feed {a b c d e : Int32} {N : Nat} {FI : Nat → Nat → Int32} {v : Int32} {s : hS} (h : RX12_feed a b c d e n sl SH FI FL FR v s) (hN : (FI 121 13).toInt = N) (h0 : N ≤ 1000) : ∃ F2, s = (n, sl, SH, F2, FL, FR) ∧ F2 126 = (if N ≤ 980 then f_20 (FI 126) N a b c d e else FI 126) := by
  have e20 : ((FI 121 13) + (20 : Int32)).toInt = (N : Int) + 20 := i_add hN (by decide) (by omega) (by omega)
  have z : ((1000 : Int32)).toInt = 1000 := by decide
  rcases h with ⟨h1, rfl, rfl⟩ | ⟨h1, h⟩
  · rw [z, e20] at h1
    exact ⟨_, rfl, by rw [if_neg (by omega), h_up_nc (by decide)]⟩
  · rw [z, e20] at h1
    obtain ⟨v1, n1, sl1, SH1, FI1, FL1, FR1, k1, v2, n2, sl2, SH2, FI2, FL2, FR2, k2, v3, n3, sl3, SH3, FI3, FL3, FR3, k3, v4, n4, sl4, SH4, FI4, FL4, FR4, k4, v5, n5, sl5, SH5, FI5, FL5, FR5, k5, rfl, rfl⟩ := h
    obtain ⟨F1, x, m1, e1⟩ := pq_four k1 (N := N) (by rw [h_up_x (by decide)]; exact hN) (by omega)
    cases x
    obtain ⟨F2, x, m2, e2⟩ := pq_four k2 m1 (by omega)
    cases x
    obtain ⟨F3, x, m3, e3⟩ := pq_four k3 m2 (by omega)
    cases x
    obtain ⟨F4, x, m4, e4⟩ := pq_four k4 m3 (by omega)
    cases x
    obtain ⟨F5, x, m5, e5⟩ := pq_four k5 m4 (by omega)
    cases x
    refine ⟨FI5, rfl, ?_⟩
    rw [if_pos (by omega), e5, e4, e3, e2, e1, h_up_nc (by decide)]
    rfl
end FD
/-- the same bytes on both tapes -/
def g_TP (FI : Nat → Nat → Int32) : Prop := (FI 0 9).toInt = (FI 121 13).toInt ∧ fq_ok (FI 19) (FI 126) (FI 0 9).toInt.toNat
theorem tp_keep {FI F2 : Nat → Nat → Int32} (h : g_TP FI) (h1 : F2 19 = FI 19) (h2 : F2 126 = FI 126) (h3 : (F2 0 9).toInt = (F2 121 13).toInt) (h4 : (F2 0 9).toInt ≤ (FI 0 9).toInt) : g_TP F2 := by
  refine ⟨h3, fun i hi => ?_⟩
  rw [h1, h2]
  exact h.2 i (by omega)
theorem tp_feed {FI F2 : Nat → Nat → Int32} {a b c d e : Int32} {N : Nat} (h : g_TP FI) (hN : (FI 0 9).toInt = N) (h1 : F2 19 = (if N ≤ 980 then f_20 (FI 19) N a b c d e else FI 19)) (h2 : F2 126 = (if N ≤ 980 then f_20 (FI 126) N a b c d e else FI 126)) (h3 : (F2 0 9).toInt = (F2 121 13).toInt) (h4 : (N ≤ 980 ∧ (F2 0 9).toInt = (N : Int) + 20) ∨ (980 < N ∧ (F2 0 9).toInt = (N : Int))) : g_TP F2 := by
  refine ⟨h3, ?_⟩
  have hk := h.2
  rw [show (FI 0 9).toInt.toNat = N by omega] at hk
  rcases h4 with ⟨q, e4⟩ | ⟨q, e4⟩
  · rw [h1, h2, if_pos q, if_pos q, show (F2 0 9).toInt.toNat = N + 20 by omega]
    exact fq_ok_20 hk
  · rw [h1, h2, if_neg (by omega), if_neg (by omega), show (F2 0 9).toInt.toNat = N by omega]
    exact hk
end
section
/-! VARIABLE: one answer on both sides. -/
def v_lt (d : Int) : Int := if d ≤ 26 then d + 96 else d + 21
def v_dg (D : List Int) : Prop := D.length ≤ 8 ∧ ∀ d, d ∈ D → 1 ≤ d ∧ d ≤ 36
/-- what variable(i, w) answers -/
def va_is (V : List lp_V) (i w r : Int) : Prop := ((i < 0 ∨ (V.length : Int) ≤ i) → r = -1) ∧ ∀ v, 0 ≤ i → V[i.toNat]? = some v → (w = 0 → r = v.2.2.1) ∧ (w = 1 → r = v.2.2.2.1.length) ∧ (100 ≤ w → w < 1000 → r = if w - 100 < v.2.2.2.1.length then v.2.2.2.1.getD (w - 100).toNat 0 else -1) ∧ ((w < 0 ∨ (2 < w ∧ w < 100)) → r = -1) ∧ ∀ D, v_dg D → v.1 = t_tv D → (w = 2 → r = D.length) ∧ (1000 ≤ w → r = if w - 1000 < D.length then v_lt (D.getD (D.length - 1 - (w - 1000).toNat) 0) else -1)
theorem va_eq {V : List lp_V} {i w r1 r2 : Int} (hD : ∀ (j : Nat) (v : lp_V), V[j]? = some v → ∃ D, v_dg D ∧ v.1 = t_tv D) (h1 : va_is V i w r1) (h2 : va_is V i w r2) : r1 = r2 := by
  by_cases hi : i < 0 ∨ (V.length : Int) ≤ i
  · rw [h1.1 hi, h2.1 hi]
  · have hlt : i.toNat < V.length := by omega
    have hv : V[i.toNat]? = some V[i.toNat] := List.getElem?_eq_getElem hlt
    obtain ⟨D, d1, d2⟩ := hD _ _ hv
    obtain ⟨a1, a2, a3, a4, a5⟩ := h1.2 _ (by omega) hv
    obtain ⟨b1, b2, b3, b4, b5⟩ := h2.2 _ (by omega) hv
    have a5 := a5 D d1 d2
    have b5 := b5 D d1 d2
    by_cases w0 : w = 0
    · rw [a1 w0, b1 w0]
    · by_cases w1 : w = 1
      · rw [a2 w1, b2 w1]
      · by_cases w2 : w = 2
        · rw [a5.1 w2, b5.1 w2]
        · by_cases w3 : 1000 ≤ w
          · rw [a5.2 w3, b5.2 w3]
          · by_cases w4 : 100 ≤ w
            · rw [a3 w4 (by omega), b3 w4 (by omega)]
            · rw [a4 (by omega), b4 (by omega)]
theorem t_al_lt {c : Int} (h : t_al c = true) : c = v_lt (t_cd c) := by
  unfold t_al t_sm t_dg at h
  rw [Bool.or_eq_true, decide_eq_true_eq, decide_eq_true_eq] at h
  unfold v_lt t_cd t_sm
  by_cases h1 : 97 ≤ c ∧ c ≤ 122
  · rw [if_pos (decide_eq_true h1), if_pos (by omega)]; omega
  · rw [if_neg (fun e => h1 (of_decide_eq_true e)), if_neg (by omega)]; omega
section CV
variable {n sl : Nat} {SH : Nat → Nat × Nat} {FI : Nat → Nat → Int32} {FL : Nat → Nat → Int64} {FR : Nat → Nat → Option Nat} {s : hS}
/-- byteAt -/
theorem c_byteAt {c : Nat} {l : Int64} {A : Int} {v : Int32} (h : RX11_byteAt (some c) l n sl SH FI FL FR v s) (hl : l.toInt = A) (hz : (SH c).2 ≤ 100000) : s = (n, sl, SH, FI, FL, FR) ∧ (A < 0 → v.toInt = -1) ∧ (0 ≤ A → A < ((SH c).2 : Int) → v = FI c A.toNat) ∧ (((SH c).2 : Int) ≤ A → v.toInt = -1) := by
  have z0 : ((0 : Int64)).toInt = 0 := by decide
  have zm : ((-1 : Int32)).toInt = -1 := by decide
  have ez : ((Int32.ofNat (SH c).2).toInt64).toInt = ((SH c).2 : Int) := i_2l (i_lit (by omega))
  rcases h with ⟨h0, rfl, rfl⟩ | ⟨h0, h⟩
  · rw [z0, hl] at h0
    exact ⟨rfl, fun _ => zm, fun h => by omega, fun h => by omega⟩
  · rw [z0, hl] at h0
    obtain ⟨c2, e2, h⟩ := h
    cases e2
    rw [ez, hl] at h
    rcases h with ⟨h1, h⟩ | ⟨h1, rfl, rfl⟩
    · obtain ⟨c4, e4, -, rfl, rfl⟩ := h
      cases e4
      have e : (l.toInt32).toInt = A := l_2i hl (by omega) (by omega)
      exact ⟨rfl, fun h => by omega, fun _ _ => by rw [e], fun h => by omega⟩
    · exact ⟨rfl, fun h => by omega, fun _ h => by omega, fun _ => zm⟩
theorem c_var {V : List lp_V} {a1 a2 v : Int32} (hv : v_cl FI FR SH n V) (h : RX11_variable a1 a2 n sl SH FI FL FR v s) : s = (n, sl, SH, FI, FL, FR) ∧ va_is V a1.toInt a2.toInt v.toInt := by
  obtain ⟨vc, y1, y2, y3, y4, y5, y6⟩ := hv
  have zm : ((-1 : Int32)).toInt = -1 := by decide
  have z0 : ((0 : Int32)).toInt = 0 := by decide
  have z1 : ((1 : Int32)).toInt = 1 := by decide
  have z2 : ((2 : Int32)).toInt = 2 := by decide
  have zk : ((1000 : Int32)).toInt = 1000 := by decide
  have ez : (Int32.ofNat (SH vc).2).toInt = 12 := by rw [y3]; decide
  obtain ⟨v0, n0, sl0, SH0, FI0, FL0, FR0, hi, h⟩ := h
  -- whether there is such a variable
  have hI : (n0, sl0, SH0, FI0, FL0, FR0) = (n, sl, SH, FI, FL, FR) ∧ (v0.toInt = 0 ↔ (a1.toInt < 0 ∨ (V.length : Int) ≤ a1.toInt)) := by
    rcases hi with ⟨h0, rfl, e⟩ | ⟨h0, hi⟩
    · exact ⟨e, fun _ => Or.inl h0, fun _ => z0⟩
    · rcases hi with ⟨h1, hi⟩ | ⟨h1, rfl, e⟩
      · obtain ⟨c3, e3, hi⟩ := hi
        rw [y1] at e3
        cases e3
        rw [ez] at hi
        rcases hi with ⟨h2, rfl, e⟩ | ⟨h2, rfl, e⟩
        · exact ⟨e, fun h => by rw [z1] at h; omega, fun h => by omega⟩
        · exfalso; omega
      · exact ⟨e, fun _ => Or.inr (by omega), fun _ => z0⟩
  obtain ⟨e, hj⟩ := hI
  cases e
  rcases h with ⟨h0, rfl, rfl⟩ | ⟨h0, h⟩
  · refine ⟨rfl, fun _ => zm, fun v' p1 p2 => ?_⟩
    exfalso
    have := hj.mp h0
    have := (List.getElem?_eq_some_iff.mp p2).1
    omega
  · have hn : ¬ (a1.toInt < 0 ∨ (V.length : Int) ≤ a1.toInt) := fun hh => h0 (hj.mpr hh)
    have hlt : a1.toInt.toNat < V.length := by omega
    have hV : V[a1.toInt.toNat]? = some V[a1.toInt.toNat] := List.getElem?_eq_getElem hlt
    obtain ⟨x, x1, x2, x3, ⟨nm, w1, w0, w2, D0, d1, d2, d3, d4, d5⟩, cc, k1, k2, k3, k4, k5, k6⟩ := y6 _ _ hV
    generalize V[a1.toInt.toNat] = vv at hV x3 d4 k4 k5 k6
    obtain ⟨c3, e3, -, h⟩ := h
    rw [y1] at e3
    cases e3
    have hDu : ∀ D, v_dg D → vv.1 = t_tv D → D = D0 := fun D p1 p2 => t_tv_inj D D0 p1.2 d3 (by rw [← p2, d4])
    have fin : ∀ r : Int, s = (n, sl, SH, FI, FL, FR) → ((a2.toInt = 0 → r = vv.2.2.1) ∧ (a2.toInt = 1 → r = vv.2.2.2.1.length) ∧ (100 ≤ a2.toInt → a2.toInt < 1000 → r = if a2.toInt - 100 < vv.2.2.2.1.length then vv.2.2.2.1.getD (a2.toInt - 100).toNat 0 else -1) ∧ ((a2.toInt < 0 ∨ (2 < a2.toInt ∧ a2.toInt < 100)) → r = -1) ∧ (a2.toInt = 2 → r = D0.length) ∧ (1000 ≤ a2.toInt → r = if a2.toInt - 1000 < D0.length then v_lt (D0.getD (D0.length - 1 - (a2.toInt - 1000).toNat) 0) else -1)) → s = (n, sl, SH, FI, FL, FR) ∧ va_is V a1.toInt a2.toInt r := by
      rintro r e ⟨q1, q2, q3, q4, q5, q6⟩
      refine ⟨e, fun hh => absurd hh hn, fun v' p1 p2 => ?_⟩
      rw [hV] at p2
      cases p2
      refine ⟨q1, q2, q3, q4, fun D p1 p2 => ?_⟩
      rw [hDu D p1 p2]
      exact ⟨q5, q6⟩
    rcases h with ⟨g0, h⟩ | ⟨g0, h⟩
    · obtain ⟨c5, e5, rfl, rfl⟩ := h
      rw [x1] at e5
      cases e5
      exact fin _ rfl ⟨fun _ => x3, fun h => by omega, fun h => by omega, fun h => by omega, fun h => by omega, fun h => by omega⟩
    · rcases h with ⟨g1, h⟩ | ⟨g1, h⟩
      · rw [z1] at g1
        obtain ⟨c7, e7, c8, e8, rfl, rfl⟩ := h
        rw [x1] at e7
        cases e7
        rw [k1] at e8
        cases e8
        refine fin _ rfl ⟨fun h => by omega, fun _ => ?_, fun h => by omega, fun h => by omega, fun h => by omega, fun h => by omega⟩
        rw [k4]
        exact i_lit (by omega)
      · rw [z1] at g1
        rcases h with ⟨g2, h⟩ | ⟨g2, h⟩
        · rw [z2] at g2
          obtain ⟨c7, e7, c8, e8, rfl, rfl⟩ := h
          rw [x1] at e7
          cases e7
          rw [w1] at e8
          cases e8
          refine fin _ rfl ⟨fun h => by omega, fun h => by omega, fun h => by omega, fun h => by omega, fun _ => ?_, fun h => by omega⟩
          rw [d1]
          exact i_lit (by omega)
        · rw [z2] at g2
          rw [zk] at h
          rcases h with ⟨g3, h⟩ | ⟨g3, h⟩
          · obtain ⟨c13, e13, v13, n13, sl13, SH13, FI13, FL13, FR13, hb, rfl, rfl⟩ := h
            rw [x1] at e13
            cases e13
            rw [k1] at hb
            have el : ((a2.toInt64) - (100 : Int64)).toInt = a2.toInt - 100 := l_sub (i_2l rfl) (by decide) (by have := Int32.le_toInt a2; omega) (by omega)
            obtain ⟨e, b1, b2, b3⟩ := c_byteAt hb el (by omega)
            refine fin _ e ⟨fun h => by omega, fun h => by omega, fun h _ => ?_, fun h => b1 (by omega), fun h => by omega, fun h => by omega⟩
            by_cases hlt2 : a2.toInt - 100 < vv.2.2.2.1.length
            · rw [if_pos hlt2, b2 (by omega) (by omega)]
              exact k6 _ (by omega)
            · rw [if_neg hlt2]
              exact b3 (by omega)
          · obtain ⟨c13, e13, v13, n13, sl13, SH13, FI13, FL13, FR13, hb, rfl, rfl⟩ := h
            rw [x1] at e13
            cases e13
            rw [w1] at hb
            have el : ((a2.toInt64) - (1000 : Int64)).toInt = a2.toInt - 1000 := l_sub (i_2l rfl) (by decide) (by omega) (by have := Int32.toInt_lt a2; omega)
            obtain ⟨e, b1, b2, b3⟩ := c_byteAt hb el (by omega)
            refine fin _ e ⟨fun h => by omega, fun h => by omega, fun h => by omega, fun h => by omega, fun h => by omega, fun h => ?_⟩
            by_cases hlt2 : a2.toInt - 1000 < D0.length
            · rw [if_pos hlt2, b2 (by omega) (by omega)]
              obtain ⟨o1, o2⟩ := d5 (a2.toInt - 1000).toNat (by omega)
              rw [t_al_lt o1, List.getD_eq_getElem?_getD, o2]
              rfl
            · rw [if_neg hlt2]
              exact b3 (by omega)
end CV
theorem tv_step {D : List Int} (h : v_dg D) {j : Nat} (hj : j < D.length) : t_tv (D.drop j) = 37 * t_tv (D.drop (j + 1)) + D.getD j 0 ∧ 1 ≤ D.getD j 0 ∧ D.getD j 0 ≤ 36 ∧ 0 ≤ t_tv (D.drop (j + 1)) := by
  have e : D.getD j 0 = D[j] := by rw [List.getD_eq_getElem?_getD, List.getElem?_eq_getElem hj]; rfl
  have hm := h.2 D[j] (List.getElem_mem hj)
  refine ⟨?_, by rw [e]; exact hm.1, by rw [e]; exact hm.2, t_tv_nn _ (fun d hd => h.2 d (List.mem_of_mem_drop hd))⟩
  rw [List.drop_eq_getElem_cons hj, t_tv, e]
section RV
variable {n sl : Nat} {SH : Nat → Nat × Nat} {FI : Nat → Nat → Int32} {FL : Nat → Nat → Int64} {FR : Nat → Nat → Option Nat} {a1 a2 : Int32}
/-- the letter -/
theorem r_115 {D : List Int} (hD : v_dg D) {l3 : Int32} (h3 : l3.toInt = D.length) {k0 : Nat} (hk : k0 < D.length) : ∀ (g : Nat) (l4 : Int64) (l6 : Int32) (v : Int32) (s : hS) (m : Nat), GX12_variable_115 a1 a2 g l3 l4 l6 n sl SH FI FL FR v s → l4.toInt = t_tv (D.drop m) → l6.toInt = ((k0 + m : Nat) : Int) → k0 + m < D.length → v.toInt = v_lt (D.getD (D.length - 1 - k0) 0) := by
  have h8 := hD.1
  have z37 : ((37 : Int64)).toInt = 37 := by decide
  have z26 : ((26 : Int32)).toInt = 26 := by decide
  intro g
  induction g with
  | zero => intro l4 l6 v s m h; exact h.elim
  | succ g ih =>
    intro l4 l6 v s m h h4 h6 hm
    obtain ⟨p1, p2, p3, p4⟩ := tv_step hD (j := m) (by omega)
    have e1 : (l3 - (1 : Int32)).toInt = (D.length : Int) - 1 := i_sub h3 (by decide) (by omega) (by omega)
    rw [GX12_variable_115, BX12_variable_115, e1, h6] at h
    rcases h with ⟨hlt, -, h⟩ | ⟨hlt, -, h⟩
    · refine ih _ _ v s (m + 1) h ?_ (by rw [i_add h6 (by decide : ((1 : Int32)).toInt = 1) (by omega) (by omega)]; omega) (by omega)
      rw [l_div h4 z37 (by omega) (by decide), p1]
      omega
    · have em : m = D.length - 1 - k0 := by omega
      have er : ((l4 - l4 / (37 : Int64) * (37 : Int64)).toInt32).toInt = D.getD m 0 := l_2i (by rw [l_rem h4 z37 (by omega) (by decide), p1]; omega) (by omega) (by omega)
      rw [er, z26] at h
      rw [← em]
      unfold v_lt
      rcases h with ⟨hc, rfl, -⟩ | ⟨hc, rfl, -⟩
      · rw [if_neg (by omega), i_add er (by decide : ((21 : Int32)).toInt = 21) (by omega) (by omega)]
      · rw [if_pos (by omega), i_add er (by decide : ((96 : Int32)).toInt = 96) (by omega) (by omega)]
theorem r_29 {D C : List Int} {rows i : Nat} {s : hS} (hD : v_dg D) (hi : a1.toInt = i) (hi12 : i < 12) (h155 : (FL 155 i).toInt = t_tv D) (h156 : (FI 156 i).toInt = rows) (h125 : (FI 125 (20 + i)).toInt = C.length) (hC : C.length ≤ 600) (h124 : ∀ k, k < C.length → (FI 124 (12000 + 600 * i + k)).toInt = C.getD k 0) : ∀ (g : Nat) (l3 : Int32) (l4 : Int64) (v : Int32) (j : Nat), GX12_variable_29 a1 a2 g l3 l4 n sl SH FI FL FR v s → l3.toInt = j → j ≤ D.length → l4.toInt = t_tv (D.drop j) → (a2.toInt = 0 → v.toInt = rows) ∧ (a2.toInt = 1 → v.toInt = C.length) ∧ (100 ≤ a2.toInt → a2.toInt < 1000 → v.toInt = if a2.toInt - 100 < C.length then C.getD (a2.toInt - 100).toNat 0 else -1) ∧ ((a2.toInt < 0 ∨ (2 < a2.toInt ∧ a2.toInt < 100)) → v.toInt = -1) ∧ (a2.toInt = 2 → v.toInt = D.length) ∧ (1000 ≤ a2.toInt → v.toInt = if a2.toInt - 1000 < D.length then v_lt (D.getD (D.length - 1 - (a2.toInt - 1000).toNat) 0) else -1) := by
  have h8 := hD.1
  have zm : ((-1 : Int32)).toInt = -1 := by decide
  have z0 : ((0 : Int64)).toInt = 0 := by decide
  have z37 : ((37 : Int64)).toInt = 37 := by decide
  have z1 : ((1 : Int32)).toInt = 1 := by decide
  have z2 : ((2 : Int32)).toInt = 2 := by decide
  have zk : ((1000 : Int32)).toInt = 1000 := by decide
  have zh : ((100 : Int32)).toInt = 100 := by decide
  have ei : a1.toInt.toNat = i := by omega
  have e20 : ((20 : Int32) + a1).toInt.toNat = 20 + i := by rw [i_add (by decide : ((20 : Int32)).toInt = 20) hi (by omega) (by omega)]; omega
  intro g
  induction g with
  | zero => intro l3 l4 v j h; exact h.elim
  | succ g ih =>
    intro l3 l4 v j h h3 hj h4
    rw [GX12_variable_29, BX12_variable_29, z0, h4] at h
    rcases h with ⟨hp, -, h⟩ | ⟨hp, h⟩
    · have hjl : j < D.length := by
        rcases Nat.lt_or_ge j D.length with q | q
        · exact q
        · exfalso
          rw [List.drop_eq_nil_of_le q] at hp
          exact absurd hp (by decide)
      obtain ⟨p1, p2, p3, p4⟩ := tv_step hD hjl
      refine ih _ _ v (j + 1) h (by rw [i_add h3 (by decide : ((1 : Int32)).toInt = 1) (by omega) (by omega)]; omega) (by omega) ?_
      rw [l_div h4 z37 (by omega) (by decide), p1]
      omega
    · have hjl : j = D.length := by
        rcases Nat.lt_or_ge j D.length with q | q
        · exfalso
          obtain ⟨p1, p2, p3, p4⟩ := tv_step hD q
          omega
        · omega
      -- beyond the name
      have r167 : RX12_variable_167 a1 a2 n sl SH FI FL FR v s → (a2.toInt < 100 → v.toInt = -1) ∧ (100 ≤ a2.toInt → a2.toInt < 1000 → v.toInt = if a2.toInt - 100 < C.length then C.getD (a2.toInt - 100).toNat 0 else -1) ∧ (1000 ≤ a2.toInt → v.toInt = -1) := by
        intro h
        rw [show RX12_variable_167 a1 a2 n sl SH FI FL FR v s = RX12_variable_167 a1 a2 n sl SH FI FL FR v s from rfl] at h
        rcases h with ⟨g1, rfl, -⟩ | ⟨g1, h⟩
        · rw [zh] at g1
          exact ⟨fun _ => zm, fun h => by omega, fun h => by omega⟩
        · rw [zh] at g1
          rcases h with ⟨g2, -, h⟩ | ⟨g2, rfl, -⟩
          · rw [zk] at g2
            have e100 : (a2 - (100 : Int32)).toInt = a2.toInt - 100 := i_sub rfl zh (by omega) (by omega)
            rw [e20, h125, e100] at h
            rcases h with ⟨g3, -, rfl, -⟩ | ⟨g3, rfl, -⟩
            · refine ⟨fun h => by omega, fun _ _ => ?_, fun h => by omega⟩
              have em : ((600 : Int32) * a1).toInt = 600 * (i : Int) := i_mul (by decide : ((600 : Int32)).toInt = 600) hi (by omega) (by omega)
              have es : ((12000 : Int32) + (600 : Int32) * a1).toInt = 12000 + 600 * (i : Int) := i_add (by decide : ((12000 : Int32)).toInt = 12000) em (by omega) (by omega)
              have et : ((12000 : Int32) + (600 : Int32) * a1 + a2).toInt = 12000 + 600 * (i : Int) + a2.toInt := i_add es rfl (by omega) (by omega)
              have eu : ((12000 : Int32) + (600 : Int32) * a1 + a2 - (100 : Int32)).toInt = 12000 + 600 * (i : Int) + a2.toInt - 100 := i_sub et zh (by omega) (by omega)
              have en : ((12000 : Int32) + (600 : Int32) * a1 + a2 - (100 : Int32)).toInt.toNat = 12000 + 600 * i + (a2.toInt - 100).toNat := by omega
              rw [en, if_pos g3]
              exact h124 _ (by omega)
            · exact ⟨fun h => by omega, fun _ _ => by rw [if_neg g3]; exact zm, fun h => by omega⟩
          · rw [zk] at g2
            exact ⟨fun h => by omega, fun _ h => by omega, fun _ => zm⟩
      rcases h with ⟨g0, -, rfl, -⟩ | ⟨g0, h⟩
      · rw [ei]
        exact ⟨fun _ => h156, fun h => by omega, fun h => by omega, fun h => by omega, fun h => by omega, fun h => by omega⟩
      · rcases h with ⟨g1, -, rfl, -⟩ | ⟨g1, h⟩
        · rw [z1] at g1
          rw [e20]
          exact ⟨fun h => by omega, fun _ => h125, fun h => by omega, fun h => by omega, fun h => by omega, fun h => by omega⟩
        · rw [z1] at g1
          rcases h with ⟨g2, rfl, -⟩ | ⟨g2, h⟩
          · rw [z2] at g2
            exact ⟨fun h => by omega, fun h => by omega, fun h => by omega, fun h => by omega, fun _ => by rw [h3, hjl], fun h => by omega⟩
          · rw [z2] at g2
            rcases h with ⟨g3, h⟩ | ⟨g3, h⟩
            · rw [zk] at g3
              obtain ⟨o1, o2, -⟩ := r167 h
              exact ⟨fun h => by omega, fun h => by omega, o2, fun h => o1 (by omega), fun h => by omega, fun h => by omega⟩
            · rw [zk] at g3
              have ek : (a2 - (1000 : Int32)).toInt = a2.toInt - 1000 := i_sub rfl zk (by omega) (by have := Int32.toInt_lt a2; omega)
              rw [ek, h3, hjl] at h
              rcases h with ⟨g4, -, g', h⟩ | ⟨g4, h⟩
              · rw [ei] at h
                refine ⟨fun h => by omega, fun h => by omega, fun h => by omega, fun h => by omega, fun h => by omega, fun _ => ?_⟩
                rw [if_pos g4]
                exact r_115 hD (by rw [h3, hjl]) (k0 := (a2.toInt - 1000).toNat) (by omega) g' _ _ v s 0 h (by rw [List.drop_zero]; exact h155) (by rw [ek]; omega) (by omega)
              · obtain ⟨-, -, o3⟩ := r167 h
                exact ⟨fun h => by omega, fun h => by omega, fun h => by omega, fun h => by omega, fun h => by omega, fun _ => by rw [if_neg g4]; exact o3 (by omega)⟩
theorem r_var {V : List lp_V} {K W : Nat → Int} {T : Nat} {v : Int32} {s : hS} (hu : u_vw FI FL K W T V) (hD : ∀ (j : Nat) (v : lp_V), V[j]? = some v → ∃ D, v_dg D ∧ v.1 = t_tv D) (h : RX12_variable a1 a2 n sl SH FI FL FR v s) : va_is V a1.toInt a2.toInt v.toInt := by
  have zm : ((-1 : Int32)).toInt = -1 := by decide
  obtain ⟨y1, y2, y3, -⟩ := hu
  have none' : (a1.toInt < 0 ∨ (V.length : Int) ≤ a1.toInt) → v.toInt = -1 → va_is V a1.toInt a2.toInt v.toInt := fun q e => ⟨fun _ => e, fun v' p1 p2 => by
    exfalso
    have := (List.getElem?_eq_some_iff.mp p2).1
    omega⟩
  rcases h with ⟨h0, rfl, -⟩ | ⟨h0, h⟩
  · exact none' (Or.inl h0) zm
  · rcases h with ⟨h1, -, g, h⟩ | ⟨h1, rfl, -⟩
    · rw [y1] at h1
      have hlt : a1.toInt.toNat < V.length := by omega
      have hV : V[a1.toInt.toNat]? = some V[a1.toInt.toNat] := List.getElem?_eq_getElem hlt
      refine ⟨fun q => by omega, fun v' p1 p2 => ?_⟩
      rw [hV] at p2
      cases p2
      obtain ⟨q1, -, q3, q4, q5, q6⟩ := y3 _ _ hV
      obtain ⟨D, d1, d2⟩ := hD _ _ hV
      have r := r_29 (FI := h_up FI 121 0 (0 : Int32)) (FL := FL) (D := D) (C := (V[a1.toInt.toNat]).2.2.2.1) (rows := (V[a1.toInt.toNat]).2.2.1) (i := a1.toInt.toNat) d1 (by omega) (by omega) (by rw [q1]; exact d2) (by rw [h_up_nc (by decide)]; exact q3) (by rw [h_up_nc (by decide)]; exact q4) q5 (by rw [h_up_nc (by decide)]; exact q6) g _ _ v 0 h (by decide) (Nat.zero_le _) (by rw [List.drop_zero, q1]; exact d2)
      obtain ⟨r1, r2, r3, r4, r5, r6⟩ := r
      refine ⟨r1, r2, r3, r4, fun D2 e1 e2 => ?_⟩
      have eD : D2 = D := t_tv_inj D2 D e1.2 d1.2 (by rw [← e2, d2])
      rw [eD]
      exact ⟨r5, r6⟩
    · rw [y1] at h1
      exact none' (Or.inr (by omega)) zm
end RV
end
section
theorem um_RX12_197 : x_uM RX12 197 yX12_keep := x_uM_tb lM_RX12 rfl
theorem ujX12_keep : x_uJ yX12_keep 156 := x_uJ_nd (show xMM 156 = some _ from rfl)
def BX12_keep_14 (K14 : Int32 → Nat → Nat → (Nat → Nat × Nat) → (Nat → Nat → Int32) → (Nat → Nat → Int64) → (Nat → Nat → Option Nat) → Int32 → hS → Prop) (a1 : Int32) (a2 : Int32) (l3i : Int32) (n sl : Nat) (SH : Nat → Nat × Nat) (FI : Nat → Nat → Int32) (FL : Nat → Nat → Int64) (FR : Nat → Nat → Option Nat) : Int32 → hS → Prop := (P_if ((l3i).toInt < (FI 121 13).toInt) (P_and (p_in (l3i) (SH 126).2) (P_and (p_in ((a2) + (l3i)) (SH 124).2) (K14 ((l3i) + (1 : Int32)) n sl SH (h_up FI 124 ((a2) + (l3i)).toInt.toNat (FI 126 (l3i).toInt.toNat)) FL FR))) (P_and (p_in (a1) (SH 125).2) (P_and (p_in (a1) (SH 125).2) (P_ret (FI 121 13) (n, sl, SH, (h_up (h_up FI 125 (a1).toInt.toNat (FI 121 13)) 121 13 ((0 : Int32))), FL, FR)))))
set_option maxHeartbeats 4000000 in
set_option maxRecDepth 100000 in
theorem bX12_keep_14 {sk : xK} {base N d : Nat} {K14 : Int32 → Nat → Nat → (Nat → Nat × Nat) → (Nat → Nat → Int32) → (Nat → Nat → Int64) → (Nat → Nat → Option Nat) → Int32 → hS → Prop} (hkb : x_kb sk base) (a1 : Int32) (a2 : Int32) (l3i : Int32)  (n sl : Nat) (SH : Nat → Nat × Nat) (FI : Nat → Nat → Int32) (FL : Nat → Nat → Int64) (FR : Nat → Nat → Option Nat) (hok : pk n SH FR)  (hK14 : ∀ (l3i : Int32) (n sl : Nat) (SH : Nat → Nat × Nat) (FI : Nat → Nat → Int32) (FL : Nat → Nat → Int64) (FR : Nat → Nat → Option Nat), pk n SH FR → pw pj_I sk base N d none 156 14 [(0, .ref (base + 121)), (1, .int (a1)), (2, .int (a2)), (3, .int (l3i))] [] (n, sl, SH, FI, FL, FR) (K14 l3i n sl SH FI FL FR)) : pw pj_I sk base (N + 1) d none 156 14 [(0, .ref (base + 121)), (1, .int (a1)), (2, .int (a2)), (3, .int (l3i))] [] (n, sl, SH, FI, FL, FR) (BX12_keep_14 K14 a1 a2 l3i n sl SH FI FL FR) := by
  unfold BX12_keep_14
  refine pd_iloadn (aX12_keep 8 rfl) rfl ?_
  refine pw_aloadn (aX12_keep 9 rfl) rfl ?_
  refine pw_getr (v := .int (FI 121 13)) (aX12_keep 10 rfl) uf_RX12_190 un_RX12_190 rfl ?_
  refine pw_icge (tgt := 42) (aX12_keep 11 rfl) (by decide) (fun b0 => ?_) (fun b0 => ?_)
  · skip
    refine pw_aloadn (aX12_keep 12 rfl) rfl ?_
    refine pw_getr (v := .ref (base + 124)) (aX12_keep 13 rfl) uf_RX12_17 un_RX12_17 (congrArg (fun r => va_rf (h_rf base r)) (q121_3 (hok).2.1)) ?_
    refine pw_iloadn (aX12_keep 14 rfl) rfl ?_
    refine pw_iloadn (aX12_keep 15 rfl) rfl ?_
    refine pw_iadd (aX12_keep 16 rfl) ?_
    refine pw_aloadn (aX12_keep 17 rfl) rfl ?_
    refine pw_getr (v := .ref (base + 126)) (aX12_keep 18 rfl) uf_RX12_30 un_RX12_30 (congrArg (fun r => va_rf (h_rf base r)) (q121_12 (hok).2.1)) ?_
    refine pw_iloadn (aX12_keep 19 rfl) rfl ?_
    refine pw_ialdr (c := 126) (ix := (l3i).toInt.toNat) (aX12_keep 20 rfl) rfl (fun _ => ?_)
    refine pw_iastr (c := 124) (ix := ((a2) + (l3i)).toInt.toNat) (aX12_keep 21 rfl) rfl (fun _ => ?_)
    refine pw_iinc (v := (l3i) + (1 : Int32)) (L2 := [(3, .int ((l3i) + (1 : Int32))), (0, .ref (base + 121)), (1, .int (a1)), (2, .int (a2))]) (aX12_keep 22 rfl) rfl rfl rfl ?_
    refine pw_goto (tgt := 14) (aX12_keep 23 rfl) (by decide) ?_
    exact pw_Li (L2 := [(0, .ref (base + 121)), (1, .int (a1)), (2, .int (a2)), (3, .int ((l3i) + (1 : Int32)))]) [3, 0, 1, 2] (hK14 ((l3i) + (1 : Int32)) n sl SH (h_up FI 124 ((a2) + (l3i)).toInt.toNat (FI 126 (l3i).toInt.toNat)) FL FR hok) ⟨rfl, rfl, rfl, rfl, trivial⟩
  · skip
    refine pw_aloadn (aX12_keep 24 rfl) rfl ?_
    refine pw_getr (v := .ref (base + 125)) (aX12_keep 25 rfl) uf_RX12_20 un_RX12_20 (congrArg (fun r => va_rf (h_rf base r)) (q121_4 (hok).2.1)) ?_
    refine pw_iloadn (aX12_keep 26 rfl) rfl ?_
    refine pw_aloadn (aX12_keep 27 rfl) rfl ?_
    refine pw_getr (v := .int (FI 121 13)) (aX12_keep 28 rfl) uf_RX12_190 un_RX12_190 rfl ?_
    refine pw_iastr (c := 125) (ix := (a1).toInt.toNat) (aX12_keep 29 rfl) rfl (fun _ => ?_)
    refine pw_aloadn (aX12_keep 30 rfl) rfl ?_
    refine pw_iconst (v := (0 : Int32)) (aX12_keep 31 rfl) rfl ?_
    refine pw_putri (aX12_keep 32 rfl) uf_RX12_190 (fun _ _ _ => rfl) (fun t2 => ?_)
    refine pw_aloadn (aX12_keep 33 rfl) rfl ?_
    refine pw_getr (v := .ref (base + 125)) (aX12_keep 34 rfl) uf_RX12_20 un_RX12_20 (congrArg (fun r => va_rf (h_rf base r)) (q121_4 (hok).2.1)) ?_
    refine pw_iloadn (aX12_keep 35 rfl) rfl ?_
    refine pw_ialdr (c := 125) (ix := (a1).toInt.toNat) (aX12_keep 36 rfl) rfl (fun _ => ?_)
    rw [show (h_up (h_up FI 125 (a1).toInt.toNat (FI 121 13)) 121 13 ((0 : Int32))) 125 (a1).toInt.toNat = FI 121 13 from (by rw [h_up_nc (by decide), h_up_eq])]
    exact pw_iret (aX12_keep 37 rfl) hok
def GX12_keep_14  (a1 : Int32) (a2 : Int32) : Nat → Int32 → Nat → Nat → (Nat → Nat × Nat) → (Nat → Nat → Int32) → (Nat → Nat → Int64) → (Nat → Nat → Option Nat) → Int32 → hS → Prop
  | 0, _, _, _, _, _, _, _ => fun _ _ => False
  | g + 1, l3i, n, sl, SH, FI, FL, FR => BX12_keep_14  (GX12_keep_14  a1 a2 g) a1 a2 l3i n sl SH FI FL FR
def RX12_keep_14  (a1 : Int32) (a2 : Int32) (l3i : Int32) (n sl : Nat) (SH : Nat → Nat × Nat) (FI : Nat → Nat → Int32) (FL : Nat → Nat → Int64) (FR : Nat → Nat → Option Nat) : Int32 → hS → Prop := fun v s => ∃ g, GX12_keep_14  a1 a2 g l3i n sl SH FI FL FR v s
theorem gX12_keep_14 {sk : xK} {base d : Nat}  (hkb : x_kb sk base) (a1 : Int32) (a2 : Int32) (N : Nat) :  ∀ (l3i : Int32)  (n sl : Nat) (SH : Nat → Nat × Nat) (FI : Nat → Nat → Int32) (FL : Nat → Nat → Int64) (FR : Nat → Nat → Option Nat), pk n SH FR → pw pj_I sk base N d none 156 14 [(0, .ref (base + 121)), (1, .int (a1)), (2, .int (a2)), (3, .int (l3i))] [] (n, sl, SH, FI, FL, FR) (GX12_keep_14  a1 a2 (N + 1) l3i n sl SH FI FL FR) := by
  induction N with
  | zero => intros; exact pw_0
  | succ N ih => intro   l3i  n sl SH FI FL FR hok; exact bX12_keep_14 hkb a1 a2 l3i  n sl SH FI FL FR hok  (ih  )
theorem rX12_keep_14 {sk : xK} {base N d : Nat}  (hkb : x_kb sk base) (a1 : Int32) (a2 : Int32) (l3i : Int32)  (n sl : Nat) (SH : Nat → Nat × Nat) (FI : Nat → Nat → Int32) (FL : Nat → Nat → Int64) (FR : Nat → Nat → Option Nat) (hok : pk n SH FR)   : pw pj_I sk base N d none 156 14 [(0, .ref (base + 121)), (1, .int (a1)), (2, .int (a2)), (3, .int (l3i))] [] (n, sl, SH, FI, FL, FR) (RX12_keep_14  a1 a2 l3i n sl SH FI FL FR) := pw_cons (gX12_keep_14 hkb a1 a2 N   l3i  n sl SH FI FL FR hok) (fun _ _ h => ⟨_, h⟩)
def RX12_keep (a1 : Int32) (a2 : Int32) (n sl : Nat) (SH : Nat → Nat × Nat) (FI : Nat → Nat → Int32) (FL : Nat → Nat → Int64) (FR : Nat → Nat → Option Nat) : Int32 → hS → Prop := (P_if (((600 : Int32)).toInt < (FI 121 13).toInt) (P_ret ((-1 : Int32)) (n, sl, SH, FI, FL, FR)) (RX12_keep_14  a1 a2 ((0 : Int32)) n sl SH FI FL FR))
set_option maxHeartbeats 4000000 in
set_option maxRecDepth 100000 in
theorem rX12_keep {sk : xK} {base N d : Nat} (hkb : x_kb sk base) (a1 : Int32) (a2 : Int32) (n sl : Nat) (SH : Nat → Nat × Nat) (FI : Nat → Nat → Int32) (FL : Nat → Nat → Int64) (FR : Nat → Nat → Option Nat) (hok : pk n SH FR)  : pw pj_I sk base N d none 156 0 [(0, .ref (base + 121)), (1, .int (a1)), (2, .int (a2))] [] (n, sl, SH, FI, FL, FR) (RX12_keep a1 a2 n sl SH FI FL FR) := by
  unfold RX12_keep
  refine pw_aloadn (aX12_keep 0 rfl) rfl ?_
  refine pw_getr (v := .int (FI 121 13)) (aX12_keep 1 rfl) uf_RX12_190 un_RX12_190 rfl ?_
  refine pw_sipush (v := (600 : Int32)) (aX12_keep 2 rfl) rfl ?_
  refine pw_icle (tgt := 12) (aX12_keep 3 rfl) (by decide) (fun b0 => ?_) (fun b0 => ?_)
  · skip
    refine pw_iconst (v := (-1 : Int32)) (aX12_keep 4 rfl) rfl ?_
    exact pw_iret (aX12_keep 5 rfl) hok
  · skip
    refine pw_iconst (v := (0 : Int32)) (aX12_keep 6 rfl) rfl ?_
    refine pw_istoren (L2 := [(3, .int ((0 : Int32))), (0, .ref (base + 121)), (1, .int (a1)), (2, .int (a2))]) (aX12_keep 7 rfl) rfl ?_
    exact pw_Li (L2 := [(0, .ref (base + 121)), (1, .int (a1)), (2, .int (a2)), (3, .int ((0 : Int32)))]) [3, 0, 1, 2] (rX12_keep_14 hkb a1 a2 ((0 : Int32)) n sl SH FI FL FR hok  ) ⟨rfl, rfl, rfl, rfl, trivial⟩
def RX12_expression (a1 : Int32) (n sl : Nat) (SH : Nat → Nat × Nat) (FI : Nat → Nat → Int32) (FL : Nat → Nat → Int64) (FR : Nat → Nat → Option Nat) : Int32 → hS → Prop := (P_if ((a1).toInt < 0) (P_ret ((-1 : Int32)) (n, sl, SH, (h_up FI 121 0 ((0 : Int32))), FL, FR)) (P_if (((15 : Int32)).toInt < (a1).toInt) (P_ret ((-1 : Int32)) (n, sl, SH, (h_up FI 121 0 ((0 : Int32))), FL, FR)) (P_bi (RX12_keep (a1) (((600 : Int32)) * (a1)) n sl SH (h_up FI 121 0 ((0 : Int32))) FL FR) (fun v3 n3 sl3 SH3 FI3 FL3 FR3 => (P_ret (v3) (n3, sl3, SH3, FI3, FL3, FR3))))))
set_option maxHeartbeats 4000000 in
set_option maxRecDepth 100000 in
theorem rX12_expression {sk : xK} {base N d : Nat} (hkb : x_kb sk base) (a1 : Int32) (n sl : Nat) (SH : Nat → Nat × Nat) (FI : Nat → Nat → Int32) (FL : Nat → Nat → Int64) (FR : Nat → Nat → Option Nat) (hok : pk n SH FR)  : pw pj_I sk base N d none 157 0 [(0, .ref (base + 121)), (1, .int (a1))] [] (n, sl, SH, FI, FL, FR) (RX12_expression a1 n sl SH FI FL FR) := by
  unfold RX12_expression
  refine pw_aloadn (aX12_expression 0 rfl) rfl ?_
  refine pw_iconst (v := (0 : Int32)) (aX12_expression 1 rfl) rfl ?_
  refine pw_putri (aX12_expression 2 rfl) uf_RX12_187 (fun _ _ _ => rfl) (fun t1 => ?_)
  refine pw_iloadn (aX12_expression 3 rfl) rfl ?_
  refine pw_iflt (tgt := 15) (aX12_expression 4 rfl) (by decide) (fun b1 => ?_) (fun b1 => ?_)
  · skip
    refine pw_iconst (v := (-1 : Int32)) (aX12_expression 8 rfl) rfl ?_
    exact pw_iret (aX12_expression 9 rfl) hok
  · skip
    refine pw_iloadn (aX12_expression 5 rfl) rfl ?_
    refine pw_bipush (v := (15 : Int32)) (aX12_expression 6 rfl) rfl ?_
    refine pw_icle (tgt := 17) (aX12_expression 7 rfl) (by decide) (fun b2 => ?_) (fun b2 => ?_)
    · skip
      refine pw_iconst (v := (-1 : Int32)) (aX12_expression 8 rfl) rfl ?_
      exact pw_iret (aX12_expression 9 rfl) hok
    · skip
      refine pw_aloadn (aX12_expression 10 rfl) rfl ?_
      refine pw_iloadn (aX12_expression 11 rfl) rfl ?_
      refine pw_sipush (v := (600 : Int32)) (aX12_expression 12 rfl) rfl ?_
      refine pw_iloadn (aX12_expression 13 rfl) rfl ?_
      refine pw_imul (aX12_expression 14 rfl) ?_
      refine pw_callV (Bs := [.int (a1), .int (((600 : Int32)) * (a1))]) (rest := []) (aX12_expression 15 rfl) um_RX12_197 ujX12_keep wc_RX12_197.2.2.2.2 (by decide) (by decide) rfl rfl (fun d => rX12_keep hkb (a1) (((600 : Int32)) * (a1)) n sl SH (h_up FI 121 0 ((0 : Int32))) FL FR hok) (fun v3 n3 sl3 SH3 FI3 FL3 FR3 hok3 _ => ?_)
      show pw _ _ _ _ _ _ _ 27 _ [.int (v3)] _ _
      exact pw_iret (aX12_expression 16 rfl) hok3
def RX12_list (a1 : Int32) (n sl : Nat) (SH : Nat → Nat × Nat) (FI : Nat → Nat → Int32) (FL : Nat → Nat → Int64) (FR : Nat → Nat → Option Nat) : Int32 → hS → Prop := (P_if ((a1).toInt < 0) (P_ret ((-1 : Int32)) (n, sl, SH, (h_up FI 121 0 ((0 : Int32))), FL, FR)) (P_if (((3 : Int32)).toInt < (a1).toInt) (P_ret ((-1 : Int32)) (n, sl, SH, (h_up FI 121 0 ((0 : Int32))), FL, FR)) (P_bi (RX12_keep (((16 : Int32)) + (a1)) (((9600 : Int32)) + (((600 : Int32)) * (a1))) n sl SH (h_up FI 121 0 ((0 : Int32))) FL FR) (fun v3 n3 sl3 SH3 FI3 FL3 FR3 => (P_ret (v3) (n3, sl3, SH3, FI3, FL3, FR3))))))
set_option maxHeartbeats 4000000 in
set_option maxRecDepth 100000 in
theorem rX12_list {sk : xK} {base N d : Nat} (hkb : x_kb sk base) (a1 : Int32) (n sl : Nat) (SH : Nat → Nat × Nat) (FI : Nat → Nat → Int32) (FL : Nat → Nat → Int64) (FR : Nat → Nat → Option Nat) (hok : pk n SH FR)  : pw pj_I sk base N d none 158 0 [(0, .ref (base + 121)), (1, .int (a1))] [] (n, sl, SH, FI, FL, FR) (RX12_list a1 n sl SH FI FL FR) := by
  unfold RX12_list
  refine pw_aloadn (aX12_list 0 rfl) rfl ?_
  refine pw_iconst (v := (0 : Int32)) (aX12_list 1 rfl) rfl ?_
  refine pw_putri (aX12_list 2 rfl) uf_RX12_187 (fun _ _ _ => rfl) (fun t1 => ?_)
  refine pw_iloadn (aX12_list 3 rfl) rfl ?_
  refine pw_iflt (tgt := 14) (aX12_list 4 rfl) (by decide) (fun b1 => ?_) (fun b1 => ?_)
  · skip
    refine pw_iconst (v := (-1 : Int32)) (aX12_list 8 rfl) rfl ?_
    exact pw_iret (aX12_list 9 rfl) hok
  · skip
    refine pw_iloadn (aX12_list 5 rfl) rfl ?_
    refine pw_iconst (v := (3 : Int32)) (aX12_list 6 rfl) rfl ?_
    refine pw_icle (tgt := 16) (aX12_list 7 rfl) (by decide) (fun b2 => ?_) (fun b2 => ?_)
    · skip
      refine pw_iconst (v := (-1 : Int32)) (aX12_list 8 rfl) rfl ?_
      exact pw_iret (aX12_list 9 rfl) hok
    · skip
      refine pw_aloadn (aX12_list 10 rfl) rfl ?_
      refine pw_bipush (v := (16 : Int32)) (aX12_list 11 rfl) rfl ?_
      refine pw_iloadn (aX12_list 12 rfl) rfl ?_
      refine pw_iadd (aX12_list 13 rfl) ?_
      refine pw_sipush (v := (9600 : Int32)) (aX12_list 14 rfl) rfl ?_
      refine pw_sipush (v := (600 : Int32)) (aX12_list 15 rfl) rfl ?_
      refine pw_iloadn (aX12_list 16 rfl) rfl ?_
      refine pw_imul (aX12_list 17 rfl) ?_
      refine pw_iadd (aX12_list 18 rfl) ?_
      refine pw_callV (Bs := [.int (((16 : Int32)) + (a1)), .int (((9600 : Int32)) + (((600 : Int32)) * (a1)))]) (rest := []) (aX12_list 19 rfl) um_RX12_197 ujX12_keep wc_RX12_197.2.2.2.2 (by decide) (by decide) rfl rfl (fun d => rX12_keep hkb (((16 : Int32)) + (a1)) (((9600 : Int32)) + (((600 : Int32)) * (a1))) n sl SH (h_up FI 121 0 ((0 : Int32))) FL FR hok) (fun v3 n3 sl3 SH3 FI3 FL3 FR3 hok3 _ => ?_)
      show pw _ _ _ _ _ _ _ 33 _ [.int (v3)] _ _
      exact pw_iret (aX12_list 20 rfl) hok3
end
section
/-! WHAT TWO DESCRIPTIONS OF ONE HEAP SHARE, and the variables between two calls. -/
section SM
variable {base n sl n2 sl2 : Nat} {SH SH2 : Nat → Nat × Nat} {FI F2 : Nat → Nat → Int32} {FL L2 : Nat → Nat → Int64} {FR R2 : Nat → Nat → Option Nat} {c t k z : Nat}
theorem sm_n (h : h_sm base (n, sl, SH, FI, FL, FR) (n2, sl2, SH2, F2, L2, R2)) : n2 = n := by
  obtain ⟨H, ⟨a1, -, -⟩, b1, -, -⟩ := h
  have a1 : H.length = n := a1
  have b1 : H.length = n2 := b1
  omega
theorem sm_c (h : h_sm base (n, sl, SH, FI, FL, FR) (n2, sl2, SH2, F2, L2, R2)) (hc : c < n) : h_cell base (SH c) (FI c) (FL c) (FR c) = h_cell base (SH2 c) (F2 c) (L2 c) (R2 c) := by
  have hn := sm_n h
  obtain ⟨H, ⟨a1, -, a3⟩, b1, -, b3⟩ := h
  have e1 := a3 c hc
  have e2 := b3 c (by show c < n2; omega)
  dsimp only at e1 e2
  rw [e1] at e2
  exact Option.some.inj e2
theorem sm_o (h : h_sm base (n, sl, SH, FI, FL, FR) (n2, sl2, SH2, F2, L2, R2)) (hc : c < n) (ht : (SH c).1 = t) (h1 : t < 100) : (SH2 c).1 = t ∧ h_fs base t (FI c) (FL c) (FR c) = h_fs base t (F2 c) (L2 c) (R2 c) := by
  have e := sm_c h hc
  rw [h_obj ht h1] at e
  unfold h_cell at e
  by_cases q : (SH2 c).1 < 100
  · rw [if_pos q] at e
    have e := Sum.inr.inj e
    have e1 : t = (SH2 c).1 := congrArg Prod.fst e
    rw [← e1] at e
    exact ⟨e1.symm, congrArg Prod.snd e⟩
  · rw [if_neg q] at e
    cases e
theorem sm_f (h : h_sm base (n, sl, SH, FI, FL, FR) (n2, sl2, SH2, F2, L2, R2)) (hc : c < n) (ht : (SH c).1 = t) (h1 : t < 100) (hk : k < h_nf t) : h_fv base (h_ty t k) (FI c k) (FL c k) (FR c k) = h_fv base (h_ty t k) (F2 c k) (L2 c k) (R2 c k) := by
  have e := (sm_o h hc ht h1).2
  have e1 := h_fs_at (base := base) (t := t) (k := k) (f := FI c) (g := FL c) (r := FR c) hk
  have e2 := h_fs_at (base := base) (t := t) (k := k) (f := F2 c) (g := L2 c) (r := R2 c) hk
  rw [e, e2] at e1
  exact (Option.some.inj e1).symm
theorem rf_inj {a b : Option Nat} (h : va_rf (h_rf base a) = va_rf (h_rf base b)) : a = b := by
  have h := va_rf_inj h
  match a, b, h with
  | none, none, _ => rfl
  | none, some y, h => cases h
  | some x, none, h => cases h
  | some x, some y, h =>
    have e : base + x = base + y := Option.some.inj h
    rw [show x = y by omega]
theorem sm_i (h : h_sm base (n, sl, SH, FI, FL, FR) (n2, sl2, SH2, F2, L2, R2)) (hc : c < n) (ht : (SH c).1 = t) (h1 : t < 100) (hk : k < h_nf t) (hy : ∀ x y r, h_fv base (h_ty t k) x y r = .int x) : FI c k = F2 c k := by
  have e := sm_f h hc ht h1 hk
  rw [hy, hy] at e
  exact Value.int.inj e
theorem sm_l (h : h_sm base (n, sl, SH, FI, FL, FR) (n2, sl2, SH2, F2, L2, R2)) (hc : c < n) (ht : (SH c).1 = t) (h1 : t < 100) (hk : k < h_nf t) (hy : ∀ x y r, h_fv base (h_ty t k) x y r = .long y) : FL c k = L2 c k := by
  have e := sm_f h hc ht h1 hk
  rw [hy, hy] at e
  exact Value.long.inj e
theorem sm_r (h : h_sm base (n, sl, SH, FI, FL, FR) (n2, sl2, SH2, F2, L2, R2)) (hc : c < n) (ht : (SH c).1 = t) (h1 : t < 100) (hk : k < h_nf t) (hy : ∀ x y r, h_fv base (h_ty t k) x y r = va_rf (h_rf base r)) : FR c k = R2 c k := by
  have e := sm_f h hc ht h1 hk
  rw [hy, hy] at e
  exact rf_inj e
theorem sm_a (h : h_sm base (n, sl, SH, FI, FL, FR) (n2, sl2, SH2, F2, L2, R2)) (hc : c < n) (hs : SH c = (100 + k, z)) : SH2 c = (100 + k, z) ∧ h_av base k (FI c) (FL c) (FR c) = h_av base k (F2 c) (L2 c) (R2 c) := by
  have e := sm_c h hc
  rw [h_arr hs] at e
  unfold h_cell at e
  by_cases q : (SH2 c).1 < 100
  · rw [if_pos q] at e
    cases e
  · rw [if_neg q] at e
    have e := Sum.inl.inj e
    have e1 : k = (SH2 c).1 - 100 := congrArg Prod.fst e
    have e2 : z = (SH2 c).2 := congrArg (fun q => q.2.1) e
    have e3 : h_av base k (FI c) (FL c) (FR c) = h_av base ((SH2 c).1 - 100) (F2 c) (L2 c) (R2 c) := congrArg (fun q => q.2.2) e
    rw [← e1] at e3
    exact ⟨Prod.ext (by show (SH2 c).1 = 100 + k; omega) e2.symm, e3⟩
theorem sm_ia (h : h_sm base (n, sl, SH, FI, FL, FR) (n2, sl2, SH2, F2, L2, R2)) (hc : c < n) (hs : (SH c).1 = 100) : SH2 c = SH c ∧ FI c = F2 c := by
  have e : SH c = (100 + 0, (SH c).2) := Prod.ext hs rfl
  obtain ⟨a, b⟩ := sm_a h hc e
  exact ⟨a.trans e.symm, Sum.inl.inj b⟩
theorem sm_la (h : h_sm base (n, sl, SH, FI, FL, FR) (n2, sl2, SH2, F2, L2, R2)) (hc : c < n) (hs : (SH c).1 = 101) : SH2 c = SH c ∧ FL c = L2 c := by
  have e : SH c = (100 + 1, (SH c).2) := Prod.ext hs rfl
  obtain ⟨a, b⟩ := sm_a h hc e
  exact ⟨a.trans e.symm, Sum.inl.inj (Sum.inr.inj b)⟩
theorem sm_ra (h : h_sm base (n, sl, SH, FI, FL, FR) (n2, sl2, SH2, F2, L2, R2)) (hc : c < n) (hs : (SH c).1 = 104) : SH2 c = SH c ∧ FR c = R2 c := by
  have e : SH c = (100 + 4, (SH c).2) := Prod.ext hs rfl
  obtain ⟨a, b⟩ := sm_a h hc e
  have b : (fun i => h_rf base (FR c i)) = fun i => h_rf base (R2 c i) := Sum.inr.inj (Sum.inr.inj (Sum.inr.inj (Sum.inr.inj b)))
  refine ⟨a.trans e.symm, funext fun i => rf_inj (base := base) ?_⟩
  have this : h_rf base (FR c i) = h_rf base (R2 c i) := congrFun b i
  rw [this]
/-- the variables that the class has, in both descriptions -/
theorem v_cl_sm {V : List lp_V} (sm : h_sm base (n, sl, SH, FI, FL, FR) (n2, sl2, SH2, F2, L2, R2)) (hS : h_S n SH) (hR : g_R n SH FR) (h : v_cl F2 R2 SH2 n2 V) : v_cl FI FR SH n V := by
  obtain ⟨vc, y1, y2, y3, y4, y5, y6⟩ := h
  have t0 : (SH 0).1 = 11 := by rw [s0 hS]
  have r11 : FR 0 11 = some vc := (sm_r sm (c0 hS) t0 (by decide) (by decide) (fun _ _ _ => rfl)).trans y1
  have i12 : FI 0 12 = F2 0 12 := sm_i sm (c0 hS) t0 (by decide) (by decide) (fun _ _ _ => rfl)
  obtain ⟨g1, g2, g3, -⟩ := hR.2.1 0 11 vc (c0 hS) (Or.inl (by decide)) r11
  rw [t0] at g3
  have g3 : (SH vc).1 = 104 := g3.trans (by decide)
  obtain ⟨a1, a2⟩ := sm_ra sm g1 g3
  refine ⟨vc, r11, g1, by rw [← a1]; exact y3, by rw [i12]; exact y4, y5, fun i v hv => ?_⟩
  obtain ⟨x, x1, x2, d1, ⟨nm, d2, d3, d4, d5⟩, cc, d6, d7, d8, d9, d10, d11⟩ := y6 i v hv
  have x1' : FR vc i = some x := by rw [a2]; exact x1
  obtain ⟨q1, q2, q3, -⟩ := hR.2.1 vc i x g1 g2 x1'
  rw [g3] at q3
  have q3 : (SH x).1 = 10 := q3.trans rfl
  have e5 : FI x 5 = F2 x 5 := sm_i sm q1 q3 (by decide) (by decide) (fun _ _ _ => rfl)
  have e0 : FR x 0 = R2 x 0 := sm_r sm q1 q3 (by decide) (by decide) (fun _ _ _ => rfl)
  have e6 : FR x 6 = R2 x 6 := sm_r sm q1 q3 (by decide) (by decide) (fun _ _ _ => rfl)
  obtain ⟨p1, p2, p3, -⟩ := hR.2.1 x 0 nm q1 q2 (e0.trans d2)
  rw [q3] at p3
  have p3 : (SH nm).1 = 100 := p3.trans (by decide)
  obtain ⟨o1, o2, o3, -⟩ := hR.2.1 x 6 cc q1 q2 (e6.trans d6)
  rw [q3] at o3
  have o3 : (SH cc).1 = 100 := o3.trans (by decide)
  obtain ⟨m1, m2⟩ := sm_ia sm p1 p3
  obtain ⟨l1, l2⟩ := sm_ia sm o1 o3
  exact ⟨x, x1', q1, by rw [e5]; exact d1, ⟨nm, e0.trans d2, d3, p1, nm_fr d5 m2 m1.symm⟩, cc, e6.trans d6, o1, d8, by rw [← l1]; exact d9, d10, fun k hk => by rw [l2]; exact d11 k hk⟩
end SM
/-- also ahead of the first compile -/
def v_any (F : Nat → Nat → Int32) (R : Nat → Nat → Option Nat) (SH : Nat → Nat × Nat) (n : Nat) (V : List lp_V) : Prop := v_cl F R SH n V ∨ (V = [] ∧ (F 0 12).toInt = 0)
def g_UV (n : Nat) (SH : Nat → Nat × Nat) (FI : Nat → Nat → Int32) (FL : Nat → Nat → Int64) (FR : Nat → Nat → Option Nat) : Prop := ∃ K W T V, u_vw FI FL K W T V ∧ v_any FI FR SH n V
/-- a call that leaves the variables alone -/
def g_UK (n : Nat) (SH : Nat → Nat × Nat) (FI : Nat → Nat → Int32) (FL : Nat → Nat → Int64) (FR : Nat → Nat → Option Nat) (n2 : Nat) (SH2 : Nat → Nat × Nat) (F2 : Nat → Nat → Int32) (L2 : Nat → Nat → Int64) (R2 : Nat → Nat → Option Nat) : Prop := ∀ K W T V, (u_vw FI FL K W T V → u_vw F2 L2 K W T V) ∧ (v_any FI FR SH n V → v_any F2 R2 SH2 n2 V)
def u_e6 (FI F2 : Nat → Nat → Int32) (FL L2 : Nat → Nat → Int64) : Prop := F2 156 = FI 156 ∧ F2 157 = FI 157 ∧ F2 152 = FI 152 ∧ L2 153 = FL 153 ∧ L2 155 = FL 155 ∧ F2 121 74 = FI 121 74
section UV
variable {n n2 : Nat} {SH SH2 : Nat → Nat × Nat} {FI F2 : Nat → Nat → Int32} {FL L2 : Nat → Nat → Int64} {FR R2 : Nat → Nat → Option Nat} {V : List lp_V}
theorem uv_up (h : g_UK n SH FI FL FR n2 SH2 F2 L2 R2) (u : g_UV n SH FI FL FR) : g_UV n2 SH2 F2 L2 R2 := by
  obtain ⟨K, W, T, V, u1, u2⟩ := u
  exact ⟨K, W, T, V, (h K W T V).1 u1, (h K W T V).2 u2⟩
theorem u_vw_e {K W : Nat → Int} {T : Nat} (h : u_vw FI FL K W T V) (e : u_e6 FI F2 FL L2) (e4 : ∀ k, 12000 ≤ k → F2 124 k = FI 124 k) (e5 : ∀ k, 20 ≤ k → F2 125 k = FI 125 k) : u_vw F2 L2 K W T V := by
  obtain ⟨h1, h2, h3, h4⟩ := h
  obtain ⟨a1, a2, a3, a4, a5, a6⟩ := e
  refine ⟨by rw [a6]; exact h1, h2, fun i v hi => ?_, fun i hi => by rw [a3, a4]; exact h4 i hi⟩
  obtain ⟨q1, q2, q3, q4, q5, q6⟩ := h3 i v hi
  exact ⟨by rw [a5]; exact q1, by rw [a2]; exact q2, by rw [a1]; exact q3, by rw [e5 _ (by omega)]; exact q4, q5, fun k hk => by rw [e4 _ (by omega)]; exact q6 k hk⟩
theorem v_any_fr (hV : g_V SH FI FR) (ex : g_ex n SH n2 SH2) (e12 : F2 0 12 = FI 0 12) (e11 : R2 0 11 = FR 0 11) (dI : ∀ c k, 176 ≤ c → c < n → F2 c k = FI c k) (dR : ∀ c k, 176 ≤ c → c < n → R2 c k = FR c k) (h : v_any FI FR SH n V) : v_any F2 R2 SH2 n2 V := by
  rcases h with ⟨vc, y1, y2, y3, y4, y5, y6⟩ | ⟨h1, h2⟩
  · refine Or.inl ⟨vc, by rw [e11]; exact y1, Nat.lt_of_lt_of_le y2 ex.1, by rw [ex.2 vc y2]; exact y3, by rw [e12]; exact y4, y5, fun i v hv => ?_⟩
    obtain ⟨x, x1, x2, d1, ⟨nm, d2, d3, d4, d5⟩, cc, d6, d7, d8, d9, d10, d11⟩ := y6 i v hv
    have hi : (i : Int) < (FI 0 12).toInt := by
      have := (List.getElem?_eq_some_iff.mp hv).1
      omega
    obtain ⟨v', g1, g2⟩ := hV
    rw [y1] at g1
    cases g1
    obtain ⟨g3, r, g4, g5, -⟩ := g2 i hi
    rw [x1] at g4
    cases g4
    have up : ∀ q, q < n → q < n2 := fun q hq => Nat.lt_of_lt_of_le hq ex.1
    exact ⟨x, by rw [dR vc i g3 y2]; exact x1, up x x2, by rw [dI x 5 g5 x2]; exact d1, ⟨nm, by rw [dR x 0 g5 x2]; exact d2, d3, up nm d4, nm_fr d5 (funext fun k => dI nm k d3 d4) (ex.2 nm d4)⟩, cc, by rw [dR x 6 g5 x2]; exact d6, up cc d7, d8, by rw [ex.2 cc d7]; exact d9, d10, fun k hk => by rw [dI cc k d8 d7]; exact d11 k hk⟩
  · exact Or.inr ⟨h1, by rw [e12]; exact h2⟩
/-- frames that leave what came later alone -/
def uv_d (L : List (Nat × Nat)) (A T : List Nat) : Bool := L.all (fun p => decide (p.1 < 176)) && (A.all (fun q => decide (q < 176)) && T.all (fun t => decide (t < 1000)))
theorem uv_d_at {α : Type} {F G : Nat → Nat → α} {L : List (Nat × Nat)} {A T : List Nat} (f : g_fr n (shd SH) L A T F G) (m : uv_d L A T = true) : ∀ c k, 176 ≤ c → c < n → G c k = F c k := by
  unfold uv_d at m
  rw [Bool.and_eq_true, Bool.and_eq_true] at m
  obtain ⟨m1, m2, m3⟩ := m
  intro c k h1 h2
  refine f c k h2 (fun h => ?_) (fun h => ?_) (fun h => ?_)
  · have := of_decide_eq_true (List.all_eq_true.mp m1 (c, k) h)
    dsimp only at this
    omega
  · have := of_decide_eq_true (List.all_eq_true.mp m2 c h)
    omega
  · have h3 := of_decide_eq_true (List.all_eq_true.mp m3 _ h)
    unfold shd at h3
    rw [if_pos h1] at h3
    dsimp only at h3
    omega
/-- a call of the class leaves the reference's variables alone -/
theorem u_cls {L1 L3 : List (Nat × Nat)} {A1 T1 A3 T3 : List Nat} (hS : h_S n SH) (f1 : g_fr n (shd SH) L1 A1 T1 FI F2) (f2 : g_fr n (shd SH) L3 A3 T3 FL L2) (m1 : g_cls L1 A1 T1 = true) (m2 : g_cls L3 A3 T3 = true) : ∀ K W T V, u_vw FI FL K W T V → u_vw F2 L2 K W T V := by
  have e : ∀ c, 121 ≤ c → c < 176 → F2 c = FI c := fun c h1 h2 => funext fun k => g_cls_at f1 m1 hS.1 h1 h2
  have g : ∀ c, 121 ≤ c → c < 176 → L2 c = FL c := fun c h1 h2 => funext fun k => g_cls_at f2 m2 hS.1 h1 h2
  intro K W T V h
  exact u_vw_e h ⟨e 156 (by decide) (by decide), e 157 (by decide) (by decide), e 152 (by decide) (by decide), g 153 (by decide) (by decide), g 155 (by decide) (by decide), by rw [e 121 (by decide) (by decide)]⟩ (fun k _ => by rw [e 124 (by decide) (by decide)]) (fun k _ => by rw [e 125 (by decide) (by decide)])
/-- a call of the class that leaves the variables alone -/
theorem uk_cls {L1 L3 L4 : List (Nat × Nat)} {A1 T1 A3 T3 A4 T4 : List Nat} (h : g_INV n SH FI FL FR) (ex : g_ex n SH n2 SH2) (f1 : g_fr n (shd SH) L1 A1 T1 FI F2) (f2 : g_fr n (shd SH) L3 A3 T3 FL L2) (f3 : g_fr n (shd SH) L4 A4 T4 FR R2) (m1 : g_cls L1 A1 T1 = true) (m2 : g_cls L3 A3 T3 = true) (d1 : uv_d L1 A1 T1 = true) (d3 : uv_d L4 A4 T4 = true) (z1 : (L1.contains (0, 12) || A1.contains 0 || T1.contains 11) = false) (z3 : (L4.contains (0, 11) || A4.contains 0 || T4.contains 11) = false) : g_UK n SH FI FL FR n2 SH2 F2 L2 R2 := fun K W T V => ⟨u_cls h.1 f1 f2 m1 m2 K W T V, v_any_fr h.2.2.2.2.1 ex (gf_at f1 (c0 h.1) (shd_f (by decide) (s0 h.1)) z1 rfl) (gf_at f3 (c0 h.1) (shd_f (by decide) (s0 h.1)) z3 rfl) (uv_d_at f1 d1) (uv_d_at f3 d3)⟩
/-- a call of the reference leaves the class's variables alone -/
theorem v_ref {L1 : List (Nat × Nat)} {A1 : List Nat} (h : g_INV n SH FI FL FR) (f1 : g_fr n SH L1 A1 [] FI F2) (m : (L1.all (fun p => decide (121 ≤ p.1 ∧ p.1 < 176)) && A1.all (fun q => decide (121 ≤ q ∧ q < 176))) = true) : ∀ V, v_any FI FR SH n V → v_any F2 FR SH n V := by
  rw [Bool.and_eq_true] at m
  have e : ∀ c k, c < n → (c < 121 ∨ 176 ≤ c) → F2 c k = FI c k := fun c k hc h1 => by
    refine f1 c k hc (fun h => ?_) (fun h => ?_) (by simp)
    · have := of_decide_eq_true (List.all_eq_true.mp m.1 (c, k) h)
      dsimp only at this
      omega
    · have := of_decide_eq_true (List.all_eq_true.mp m.2 c h)
      omega
  intro V hv
  exact v_any_fr h.2.2.2.2.1 ex_rf (e 0 12 (c0 h.1) (Or.inl (by decide))) rfl (fun c k h1 h2 => e c k h2 (Or.inr h1)) (fun _ _ _ _ => rfl) hv
theorem uk_ref {L1 : List (Nat × Nat)} {A1 : List Nat} (h : g_INV n SH FI FL FR) (f1 : g_fr n SH L1 A1 [] FI F2) (m : (L1.all (fun p => decide (121 ≤ p.1 ∧ p.1 < 176)) && A1.all (fun q => decide (121 ≤ q ∧ q < 176))) = true) (e : u_e6 FI F2 FL L2) (e4 : F2 124 = FI 124) (e5 : F2 125 = FI 125) : g_UK n SH FI FL FR n SH F2 L2 FR := fun K W T V => ⟨fun hu => u_vw_e hu e (fun k _ => by rw [e4]) (fun k _ => by rw [e5]), v_ref h f1 m V⟩
/-- the names have digits -/
theorem v_any_D (h : v_any FI FR SH n V) : ∀ (j : Nat) (v : lp_V), V[j]? = some v → ∃ D, v_dg D ∧ v.1 = t_tv D := by
  intro j v hv
  rcases h with ⟨vc, y1, y2, y3, y4, y5, y6⟩ | ⟨h1, h2⟩
  · obtain ⟨x, x1, x2, d1, ⟨nm, d2, d3, d4, D, o1, o2, o3, o4, o5⟩, -⟩ := y6 j v hv
    exact ⟨D, ⟨o2, o3⟩, o4⟩
  · rw [h1] at hv
    simp at hv
theorem c_var2 {sl : Nat} {a1 a2 v : Int32} {s : hS} (hv : v_any FI FR SH n V) (h : RX11_variable a1 a2 n sl SH FI FL FR v s) : va_is V a1.toInt a2.toInt v.toInt := by
  rcases hv with hv | ⟨h1, h2⟩
  · exact (c_var hv h).2
  · subst h1
    obtain ⟨v0, n0, sl0, SH0, FI0, FL0, FR0, hi, h⟩ := h
    have h0 : v0.toInt = 0 := by
      rcases hi with ⟨-, e, -⟩ | ⟨h0, hi⟩
      · rw [e]; decide
      · rcases hi with ⟨h1, -⟩ | ⟨-, e, -⟩
        · rw [h2] at h1
          exact absurd h1 h0
        · rw [e]; decide
    rcases h with ⟨-, e1, -⟩ | ⟨hn, -⟩
    · exact ⟨fun _ => by rw [e1]; decide, fun v' _ hv' => by simp at hv'⟩
    · exact absurd h0 hn
theorem uv_0 (h12 : (FI 0 12).toInt = 0) (h74 : (FI 121 74).toInt = 0) : g_UV n SH FI FL FR := ⟨fun i => (FI 152 i).toInt, fun i => (FL 153 i).toInt, 0, [], ⟨by rw [h74]; rfl, by decide, fun i v hi => by simp at hi, fun i _ => ⟨rfl, rfl⟩⟩, Or.inr ⟨rfl, h12⟩⟩
end UV
end
