section
/-! THE CLASS'S PARSER: locations. -/
/-- a location's bytes, as the coder walks it -/
def w_lc (F : Nat → Nat → Int32) (L : Nat → Nat → Int64) (R : Nat → Nat → Option Nat) (SH : Nat → Nat × Nat) : Nat → Option Nat → List Int → Prop
  | 0, _, _ => False
  | _ + 1, none, code => code = []
  | f + 1, some c, code => ∃ a r, w_pl F L R SH c a ∧ w_lc F L R SH f (R c 5) r ∧ (-1 ≤ (F c 4).toInt ∧ ((F c 4).toInt = -1 → R c 5 = none) ∧ ∀ d, R c 5 = some d → 0 ≤ (F d 4).toInt) ∧ code = a ++ ((if (F c 4).toInt = -1 then [] else 147 :: lc_u 9 (F c 4).toInt) ++ r)
def m_al (lo hi : Nat) (FI : Nat → Nat → Int32) (FL : Nat → Nat → Int64) (FR : Nat → Nat → Option Nat) (SH : Nat → Nat × Nat) (F2 : Nat → Nat → Int32) (L2 : Nat → Nat → Int64) (R2 : Nat → Nat → Option Nat) (S2 : Nat → Nat × Nat) : Prop := (∀ q k, lo ≤ q → q < hi → F2 q k = FI q k) ∧ (∀ q k, lo ≤ q → q < hi → L2 q k = FL q k) ∧ (∀ q k, lo ≤ q → q < hi → R2 q k = FR q k) ∧ (∀ q, lo ≤ q → q < hi → S2 q = SH q)
/-- a location, by meaning -/
def m_lc (FI : Nat → Nat → Int32) (FL : Nat → Nat → Int64) (FR : Nat → Nat → Option Nat) (SH : Nat → Nat × Nat) (lo hi a : Nat) (code : List Int) : Prop := 176 ≤ lo ∧ ∀ F2 L2 R2 S2, m_al lo hi FI FL FR SH F2 L2 R2 S2 → ∃ f, w_lc F2 L2 R2 S2 f (some a) code
theorem w_lc_ge {F : Nat → Nat → Int32} {L : Nat → Nat → Int64} {R : Nat → Nat → Option Nat} {SH : Nat → Nat × Nat} {f d : Nat} {code : List Int} (h : w_lc F L R SH f (some d) code) : 176 ≤ d := by
  cases f with
  | zero => exact h.elim
  | succ f =>
    obtain ⟨a, r, h1, -⟩ := h
    exact h1.1
/-- parts under way: l the last -/
def m_cw (FI : Nat → Nat → Int32) (FL : Nat → Nat → Int64) (FR : Nat → Nat → Option Nat) (SH : Nat → Nat × Nat) (lo hi a l : Nat) (code : List Int) : Prop := 176 ≤ lo ∧ lo ≤ l ∧ l < hi ∧ ∀ F2 L2 R2 S2, ((∀ q k, lo ≤ q → q < hi → F2 q k = FI q k) ∧ (∀ q k, lo ≤ q → q < hi → L2 q k = FL q k) ∧ (∀ q k, lo ≤ q → q < hi → ¬ (q = l ∧ k = 5) → R2 q k = FR q k) ∧ (∀ q, lo ≤ q → q < hi → S2 q = SH q)) → ∀ f r, w_lc F2 L2 R2 S2 f (R2 l 5) r → (∀ d, R2 l 5 = some d → 0 ≤ (F2 d 4).toInt) → ∃ f2, w_lc F2 L2 R2 S2 f2 (some a) (code ++ r)
section ML
variable {FI F2 : Nat → Nat → Int32} {FL L2 : Nat → Nat → Int64} {FR R2 : Nat → Nat → Option Nat} {SH S2 : Nat → Nat × Nat} {lo hi a l c : Nat} {code : List Int}
theorem m_lc_fr (h : m_lc FI FL FR SH lo hi a code) (ha : m_al lo hi FI FL FR SH F2 L2 R2 S2) : m_lc F2 L2 R2 S2 lo hi a code :=
  ⟨h.1, fun F3 L3 R3 S3 h3 => h.2 F3 L3 R3 S3 ⟨fun q k y1 y2 => (h3.1 q k y1 y2).trans (ha.1 q k y1 y2), fun q k y1 y2 => (h3.2.1 q k y1 y2).trans (ha.2.1 q k y1 y2), fun q k y1 y2 => (h3.2.2.1 q k y1 y2).trans (ha.2.2.1 q k y1 y2), fun q y1 y2 => (h3.2.2.2 q y1 y2).trans (ha.2.2.2 q y1 y2)⟩⟩
/-- a place alone -/
theorem m_lc_1 (h : m_pl FI FL FR SH lo hi c code) (h4 : (FI c 4).toInt = -1) (h5 : FR c 5 = none) : m_lc FI FL FR SH lo hi c code := by
  refine ⟨h.1, fun F2 L2 R2 S2 ha => ⟨2, code, [], ?_, ?_, ?_, ?_⟩⟩
  · exact h.2.2.2 F2 L2 R2 S2 ⟨fun q k y1 y2 _ => ha.1 q k y1 y2, fun q k y1 y2 => ha.2.1 q k y1 y2, fun q k y1 y2 _ => ha.2.2.1 q k y1 y2, fun q y1 y2 => ha.2.2.2 q y1 y2⟩
  · rw [ha.2.2.1 c 5 h.2.1 h.2.2.1, h5]
    rfl
  · refine ⟨by rw [ha.1 c 4 h.2.1 h.2.2.1, h4]; decide, fun _ => by rw [ha.2.2.1 c 5 h.2.1 h.2.2.1, h5], fun d hd => ?_⟩
    rw [ha.2.2.1 c 5 h.2.1 h.2.2.1, h5] at hd
    cases hd
  · rw [ha.1 c 4 h.2.1 h.2.2.1, h4, if_pos rfl, List.append_nil, List.append_nil]
/-- the first part -/
theorem m_cw_1 (h : m_pl FI FL FR SH lo hi c code) {w : Int} (h4 : (FI c 4).toInt = w) (hw : 0 ≤ w) : m_cw FI FL FR SH lo hi c c (code ++ 147 :: lc_u 9 w) := by
  refine ⟨h.1, h.2.1, h.2.2.1, fun F2 L2 R2 S2 ha f r hr hd => ⟨f + 1, code, r, ?_, hr, ?_, ?_⟩⟩
  · exact h.2.2.2 F2 L2 R2 S2 ⟨fun q k y1 y2 _ => ha.1 q k y1 y2, fun q k y1 y2 => ha.2.1 q k y1 y2, fun q k y1 y2 y3 => ha.2.2.1 q k y1 y2 y3, fun q y1 y2 => ha.2.2.2 q y1 y2⟩
  · refine ⟨by rw [ha.1 c 4 h.2.1 h.2.2.1, h4]; omega, fun e => ?_, hd⟩
    rw [ha.1 c 4 h.2.1 h.2.2.1, h4] at e
    exfalso
    omega
  · rw [ha.1 c 4 h.2.1 h.2.2.1, h4, if_neg (by omega), List.append_assoc]
/-- one more -/
theorem m_cw_s {lo2 hi2 : Nat} {ce : List Int} (q1 : m_cw FI FL FR SH lo hi a l code) (h : m_pl FI FL FR SH lo2 hi2 c ce) {w : Int} (h4 : (FI c 4).toInt = w) (hw : 0 ≤ w) (h5 : FR l 5 = some c) (i2 : hi ≤ lo2) : m_cw FI FL FR SH lo hi2 a c (code ++ (ce ++ 147 :: lc_u 9 w)) := by
  have b1 := q1.2.1
  have b2 := q1.2.2.1
  have b3 := h.2.1
  have b4 := h.2.2.1
  refine ⟨q1.1, by omega, b4, fun F2 L2 R2 S2 ha f r hr hd => ?_⟩
  have e5 : R2 l 5 = some c := (ha.2.2.1 l 5 b1 (by omega) (by omega)).trans h5
  have hc : w_lc F2 L2 R2 S2 (f + 1) (some c) ((ce ++ 147 :: lc_u 9 w) ++ r) := by
    refine ⟨ce, r, ?_, hr, ?_, ?_⟩
    · exact h.2.2.2 F2 L2 R2 S2 ⟨fun q k y1 y2 _ => ha.1 q k (by omega) y2, fun q k y1 y2 => ha.2.1 q k (by omega) y2, fun q k y1 y2 y3 => ha.2.2.1 q k (by omega) y2 y3, fun q y1 y2 => ha.2.2.2 q (by omega) y2⟩
    · refine ⟨by rw [ha.1 c 4 (by omega) b4, h4]; omega, fun e => ?_, hd⟩
      rw [ha.1 c 4 (by omega) b4, h4] at e
      exfalso
      omega
    · rw [ha.1 c 4 (by omega) b4, h4, if_neg (by omega), List.append_assoc]
  obtain ⟨f2, h2⟩ := q1.2.2.2 F2 L2 R2 S2 ⟨fun q k y1 y2 => ha.1 q k y1 (by omega), fun q k y1 y2 => ha.2.1 q k y1 (by omega), fun q k y1 y2 _ => ha.2.2.1 q k y1 (by omega) (by omega), fun q y1 y2 => ha.2.2.2 q y1 (by omega)⟩ (f + 1) _ (by rw [e5]; exact hc) (fun d hd2 => by rw [e5] at hd2; cases hd2; rw [ha.1 c 4 (by omega) b4, h4]; exact hw)
  exact ⟨f2, by rw [List.append_assoc]; exact h2⟩
theorem m_cw_fr (q1 : m_cw FI FL FR SH lo hi a l code) (ha : (∀ q k, lo ≤ q → q < hi → F2 q k = FI q k) ∧ (∀ q k, lo ≤ q → q < hi → L2 q k = FL q k) ∧ (∀ q k, lo ≤ q → q < hi → ¬ (q = l ∧ k = 5) → R2 q k = FR q k) ∧ (∀ q, lo ≤ q → q < hi → S2 q = SH q)) : m_cw F2 L2 R2 S2 lo hi a l code :=
  ⟨q1.1, q1.2.1, q1.2.2.1, fun F3 L3 R3 S3 h3 f r hr hd => q1.2.2.2 F3 L3 R3 S3 ⟨fun q k y1 y2 => (h3.1 q k y1 y2).trans (ha.1 q k y1 y2), fun q k y1 y2 => (h3.2.1 q k y1 y2).trans (ha.2.1 q k y1 y2), fun q k y1 y2 y3 => (h3.2.2.1 q k y1 y2 y3).trans (ha.2.2.1 q k y1 y2 y3), fun q y1 y2 => (h3.2.2.2 q y1 y2).trans (ha.2.2.2 q y1 y2)⟩ f r hr hd⟩
/-- the end -/
theorem m_cw_e (q1 : m_cw FI FL FR SH lo hi a l code) (h5 : FR l 5 = none) : m_lc FI FL FR SH lo hi a code := by
  refine ⟨q1.1, fun F2 L2 R2 S2 ha => ?_⟩
  obtain ⟨f, h⟩ := q1.2.2.2 F2 L2 R2 S2 ⟨ha.1, ha.2.1, fun q k y1 y2 _ => ha.2.2.1 q k y1 y2, ha.2.2.2⟩ 1 [] (by rw [ha.2.2.1 l 5 q1.2.1 q1.2.2.1, h5]; rfl) (fun d hd => by rw [ha.2.2.1 l 5 q1.2.1 q1.2.2.1, h5] at hd; cases hd)
  rw [List.append_nil] at h
  exact ⟨f, h⟩
end ML
section SL
variable {K W : Nat → Int} {M : Nat} {n sl : Nat} {SH : Nat → Nat × Nat} {FI : Nat → Nat → Int32} {FL : Nat → Nat → Int64} {FR : Nat → Nat → Option Nat} {v : Option Nat} {s : hS} {t : Nat} {o : Int}
/-- what a width changes -/
def a_wd (c : Nat) (FI F2 : Nat → Nat → Int32) (FL L2 : Nat → Nat → Int64) : Prop := (∀ q k, ¬ (q = 110 ∧ 4 ≤ k ∧ k ≤ 8) → ¬ (q = c ∧ k = 4) → F2 q k = FI q k) ∧ (∀ q k, ¬ (q = 110 ∧ k = 9) → L2 q k = FL q k)
theorem s_width_f {c : Nat} {u : Unit} (hc : 176 ≤ c) (hf : s_ft FI) (h : RX4_readWidth (some c) n sl SH FI FL FR u s) : ∃ F2, s = (n, sl, SH, F2, FL, FR) ∧ a_wd c FI F2 FL FL ∧ s_ft F2 := by
  obtain ⟨v0, n0, sl0, SH0, FI0, FL0, FR0, hx, h⟩ := h
  have e := s_expect_f hx hf.1
  cases e
  rcases h with ⟨h5, -⟩ | ⟨-, h⟩
  · exfalso
    rw [hf.2] at h5
    revert h5
    decide
  · obtain ⟨c9, e9, v9, n9, sl9, SH9, FI9, FL9, FR9, hx2, -, rfl⟩ := h
    cases e9
    have ft := ft_c (k := 4) (x := (FL 110 9).toInt32) hc hf
    have e := s_expect_f hx2 ft.1
    cases e
    exact ⟨_, rfl, ⟨fun q k _ y2 => h_up_x y2, fun _ _ _ => rfl⟩, ft⟩
theorem s_width {c : Nat} {u : Unit} (hc : 176 ≤ c) (hq : q_tk K W M FI FL) (hv : s_vw M FI FL t o) (h : RX4_readWidth (some c) n sl SH FI FL FR u s) : ∃ F2 L2, s = (n, sl, SH, F2, L2, FR) ∧ a_wd c FI F2 FL L2 ∧ (((K t = 5 ∧ W t = 47 ∧ K (t + 1) = 3 ∧ W (t + 1) ≤ 64) ∧ 0 ≤ W (t + 1) ∧ (F2 c 4).toInt = W (t + 1) ∧ s_vw M F2 L2 (t + 2) o) ∨ (¬ (K t = 5 ∧ W t = 47 ∧ K (t + 1) = 3 ∧ W (t + 1) ≤ 64) ∧ s_ft F2)) := by
  have z5 : ((5 : Int32)).toInt = 5 := by decide
  have z64 : ((64 : Int64)).toInt = 64 := by decide
  obtain ⟨v0, n0, sl0, SH0, FI0, FL0, FR0, hx, h⟩ := h
  obtain ⟨F0, L0, e, a0, r0⟩ := s_expect (w := 47) hx (by decide) (by decide) hq hv
  cases e
  rcases r0 with ⟨ht, r, w0⟩ | ⟨r, ft⟩
  · have kr := (hq.2.1 t ht).2.1
    have ce := ck_e kr
    have hK : K t = 5 ∧ W t = 47 := by omega
    have hq0 := q_a hq a0
    have kd := s_kd hq0 w0
    rcases h with ⟨h5, h⟩ | ⟨h5, h⟩
    · rw [z5] at h5
      rcases kd with ⟨ht2, kd, -, kr2, k3, -⟩ | ⟨-, -, kd⟩
      · have ce2 := ck_e kr2
        have hK3 : K (t + 1) = 3 := by omega
        obtain ⟨j1, j2, j3⟩ := k3 hK3
        rcases h with ⟨h6, h⟩ | ⟨h6, h⟩
        · rw [z64, j1] at h6
          obtain ⟨v3, n3, sl3, SH3, FI3, FL3, FR3, hr, c5, e5, v5, n5, sl5, SH5, FI5, FL5, FR5, hx2, -, rfl⟩ := h
          cases e5
          obtain ⟨F3, e, a3, ft⟩ := s_refuse hr (by decide) hq0 w0
          cases e
          have ft2 := ft_c (k := 4) (x := (FL0 110 9).toInt32) hc ft
          have e := s_expect_f hx2 ft2.1
          cases e
          exact ⟨_, _, rfl, ⟨fun q k y1 y2 => by rw [h_up_x y2, a3.1 q k y1, a0.1 q k y1], fun q k y1 => a0.2 q k y1⟩, Or.inr ⟨by omega, ft2⟩⟩
        · rw [z64, j1] at h6
          obtain ⟨c7, e7, v7, n7, sl7, SH7, FI7, FL7, FR7, hx2, -, rfl⟩ := h
          cases e7
          obtain ⟨q1, w1⟩ := s_wI (c := c) (k := 4) (x := (FL0 110 9).toInt32) hc ⟨hq0, w0⟩
          obtain ⟨F2, L2, e, a2, r2⟩ := s_expect (w := 5) hx2 (by decide) (by decide) q1 w1
          cases e
          refine ⟨_, _, rfl, ⟨fun q k y1 y2 => by rw [a2.1 q k y1, h_up_x y2, a0.1 q k y1], fun q k y1 => by rw [a2.2 q k y1, a0.2 q k y1]⟩, ?_⟩
          rcases r2 with ⟨-, -, w2⟩ | ⟨r2, -⟩
          · exact Or.inl ⟨⟨hK.1, hK.2, hK3, by omega⟩, j2, by rw [a2.1 c 4 (by omega), h_up_eq]; exact l_2i j1 (by omega) (by omega), w2⟩
          · exfalso
            have := r2 ht2
            omega
      · exfalso; omega
    · rw [z5] at h5
      obtain ⟨c9, e9, v9, n9, sl9, SH9, FI9, FL9, FR9, hx2, -, rfl⟩ := h
      cases e9
      obtain ⟨q1, w1⟩ := s_wI (c := c) (k := 4) (x := (FL0 110 9).toInt32) hc ⟨hq0, w0⟩
      obtain ⟨F2, L2, e, a2, r2⟩ := s_expect (w := 5) hx2 (by decide) (by decide) q1 w1
      cases e
      refine ⟨_, _, rfl, ⟨fun q k y1 y2 => by rw [a2.1 q k y1, h_up_x y2, a0.1 q k y1], fun q k y1 => by rw [a2.2 q k y1, a0.2 q k y1]⟩, ?_⟩
      rcases r2 with ⟨ht2, r2, -⟩ | ⟨-, ft⟩
      · exfalso
        rcases kd with ⟨-, kd, -⟩ | ⟨e, -⟩
        · omega
        · omega
      · refine Or.inr ⟨fun h => ?_, ft⟩
        rcases kd with ⟨-, kd, -, kr2, -⟩ | ⟨-, kK, -⟩
        · have ce2 := ck_e kr2
          omega
        · omega
  · have nK : ¬ (K t = 5 ∧ W t = 47 ∧ K (t + 1) = 3 ∧ W (t + 1) ≤ 64) := by
      intro h
      rcases s_kd hq hv with ⟨ht, -, -, kr, -⟩ | ⟨-, kK, -⟩
      · have ce := ck_e kr
        have := r ht
        omega
      · omega
    have hX : ∃ F2, s = (n, sl, SH, F2, FL0, FR) ∧ a_wd c FI0 F2 FL0 FL0 ∧ s_ft F2 := by
      rcases h with ⟨h5, -⟩ | ⟨-, h⟩
      · exfalso
        rw [ft.2] at h5
        revert h5
        decide
      · obtain ⟨c9, e9, v9, n9, sl9, SH9, FI9, FL9, FR9, hx2, -, rfl⟩ := h
        cases e9
        have ft2 := ft_c (k := 4) (x := (FL0 110 9).toInt32) hc ft
        have e := s_expect_f hx2 ft2.1
        cases e
        exact ⟨_, rfl, ⟨fun q k _ y2 => h_up_x y2, fun _ _ _ => rfl⟩, ft2⟩
    obtain ⟨F2, rfl, a2, ft2⟩ := hX
    exact ⟨_, _, rfl, ⟨fun q k y1 y2 => by rw [a2.1 q k y1 y2, a0.1 q k y1], fun q k y1 => a0.2 q k y1⟩, Or.inr ⟨nK, ft2⟩⟩
/-- a place behind a fault -/
theorem s_place_f (hQ : h_S n SH) (hf : s_ft FI) (h : RX4_readPlace n sl SH FI FL FR v s) : ∃ sl2 SH2 F2 L2 R2, v = some n ∧ s = (n + 1, sl2, SH2, F2, L2, R2) ∧ b_ct n SH FI FL FR (n + 1) SH2 F2 L2 R2 ∧ s_ft F2 := by
  have h176 := hQ.1
  obtain ⟨v0, n0, sl0, SH0, FI0, FL0, FR0, k0, v1, n1, sl1, SH1, FI1, FL1, FR1, k1, h⟩ := h
  obtain ⟨sl', SH', F', L', R', e, q0, q1, q2, q3⟩ := b_nw hQ k0
  cases e
  obtain ⟨-, e⟩ := k1
  cases e
  have b1 := b_wI (k := 4) (x := (-1 : Int32)) q0 h176 (Nat.le_refl _)
  have hf0 : s_ft FI0 := by unfold s_ft; rw [q2]; exact hf
  have hf1 : s_ft (h_up FI0 n 4 (-1 : Int32)) := ft_c h176 hf0
  have nb : ¬ ((h_up FI0 n 4 (-1 : Int32) 110 8).toInt = 7 ∨ (h_up FI0 n 4 (-1 : Int32) 110 8).toInt = 91 ∨ (h_up FI0 n 4 (-1 : Int32) 110 8).toInt = 8 ∨ (h_up FI0 n 4 (-1 : Int32) 110 8).toInt = 9 ∨ (h_up FI0 n 4 (-1 : Int32) 110 8).toInt = 10) := by rw [hf1.2]; omega
  rcases h with ⟨-, h⟩ | ⟨hb, -⟩
  · obtain ⟨v4, n4, sl4, SH4, FI4, FL4, FR4, hr, h⟩ := h
    have e := s_refuse_f hr hf1.1
    cases e
    rcases h with ⟨h7, -⟩ | ⟨-, h⟩
    · exfalso; exact nb (Or.inl h7)
    · rcases h with ⟨h7, -⟩ | ⟨-, h⟩
      · exfalso; exact nb (Or.inr (Or.inl h7))
      · rcases h with ⟨h7, -⟩ | ⟨-, h⟩
        · exfalso; exact nb (Or.inr (Or.inr (Or.inl h7)))
        · rcases h with ⟨h7, -⟩ | ⟨-, rfl, rfl⟩
          · exfalso; exact nb (Or.inr (Or.inr (Or.inr (Or.inl h7))))
          · exact ⟨_, _, _, _, _, rfl, rfl, b1, hf1⟩
  · exfalso
    exact hb (s_begins.mpr nb)
/-- parts behind a fault -/
theorem s_lf {g : Nat} {l1 l2 : Option Nat} {l3 : Int32} (hf : s_ft FI) (h : GX4_readLocation_39 g l1 l2 l3 n sl SH FI FL FR v s) : ∃ x, v = l1 ∧ s = (n, sl, SH, h_up FI 110 4 x, FL, FR) := by
  cases g with
  | zero => exact h.elim
  | succ g =>
    rcases h with ⟨-, h⟩ | ⟨-, h⟩
    · obtain ⟨v1, n1, sl1, SH1, FI1, FL1, FR1, hx, rfl, rfl⟩ := h
      have e := s_expect_f hx hf.1
      cases e
      exact ⟨_, rfl, rfl⟩
    · rcases h with ⟨h5, -⟩ | ⟨-, h⟩
      · exfalso
        rw [hf.2] at h5
        revert h5
        decide
      · obtain ⟨v1, n1, sl1, SH1, FI1, FL1, FR1, hx, rfl, rfl⟩ := h
        have e := s_expect_f hx hf.1
        cases e
        exact ⟨_, rfl, rfl⟩
end SL
end
section
/-! THE CLASS'S PARSER: a location read. -/
def l_pt (K W : Nat → Int) (m t : Nat) (r : Option (Nat × List Int)) : Prop := ∃ F0, ∀ f g, F0 ≤ f → 20 ≤ g + m → lp_pt K W f g m t = r
/-- behind a part -/
def l_rt (K W : Nat → Int) (m t : Nat) (r : Option (Nat × List Int)) : Prop := ∃ F0, ∀ f g, F0 ≤ f → 20 ≤ g + m → (if K t = 5 ∧ W t = 44 then lp_pt K W f g m (t + 1) else if K t = 5 ∧ W t = 125 then some (t + 1, []) else none) = r
section LP
variable {K W : Nat → Int} {m t t1 t2 : Nat} {o : Int} {c c2 : List Int}
theorem l_pl_is {x : Nat × List Int} (h : l_pl K W o t (some x)) : lp_is (K t) (W t) = true := by
  obtain ⟨F0, h⟩ := h
  have h := h F0 (Nat.le_refl _)
  by_cases hi : lp_is (K t) (W t) = true
  · exact hi
  · rw [if_neg hi] at h
    cases h
theorem l_pt_ok (hm : m < 8) (h : l_pl K W 1 t (some (t1, c))) (hw : K t1 = 5 ∧ W t1 = 47 ∧ K (t1 + 1) = 3 ∧ W (t1 + 1) ≤ 64) (hr : l_rt K W (m + 1) (t1 + 2) (some (t2, c2))) : l_pt K W m t (some (t2, (c ++ 147 :: lc_u 9 (W (t1 + 1))) ++ c2)) := by
  have hi := l_pl_is h
  obtain ⟨a, h⟩ := h
  obtain ⟨b, hr⟩ := hr
  refine ⟨a + b, fun f g hf hg => ?_⟩
  cases g with
  | zero => omega
  | succ g =>
    have h := h f (by omega)
    rw [if_pos hi] at h
    have hr := hr f g (by omega) (by omega)
    rw [lp_pt, if_pos ⟨hi, hm⟩, h]
    dsimp only
    rw [if_pos hw]
    by_cases hc : K (t1 + 2) = 5 ∧ W (t1 + 2) = 44
    · rw [if_pos hc] at hr ⊢
      have hr : lp_pt K W f g (m + 1) (t1 + 3) = some (t2, c2) := hr
      rw [hr, List.append_assoc]
      rfl
    · rw [if_neg hc] at hr ⊢
      by_cases hd : K (t1 + 2) = 5 ∧ W (t1 + 2) = 125
      · rw [if_pos hd] at hr ⊢
        cases hr
        rw [List.append_nil]
      · rw [if_neg hd] at hr
        cases hr
theorem l_pt_n1 (h : l_pl K W 1 t none) : l_pt K W m t none := by
  obtain ⟨a, h⟩ := h
  refine ⟨a, fun f g hf hg => ?_⟩
  cases g with
  | zero => rw [lp_pt]
  | succ g =>
    have h := h f hf
    rw [lp_pt]
    by_cases hi : lp_is (K t) (W t) = true ∧ m < 8
    · rw [if_pos hi.1] at h
      rw [if_pos hi, h]
    · rw [if_neg hi]
theorem l_pt_n2 (h : l_pl K W 1 t (some (t1, c))) (hw : ¬ (K t1 = 5 ∧ W t1 = 47 ∧ K (t1 + 1) = 3 ∧ W (t1 + 1) ≤ 64)) : l_pt K W m t none := by
  have hi := l_pl_is h
  obtain ⟨a, h⟩ := h
  refine ⟨a, fun f g hf hg => ?_⟩
  cases g with
  | zero => rw [lp_pt]
  | succ g =>
    have h := h f hf
    rw [if_pos hi] at h
    rw [lp_pt]
    by_cases hm : lp_is (K t) (W t) = true ∧ m < 8
    · rw [if_pos hm, h]
      dsimp only
      rw [if_neg hw]
    · rw [if_neg hm]
theorem l_pt_n3 (h : l_pl K W 1 t (some (t1, c))) (hw : K t1 = 5 ∧ W t1 = 47 ∧ K (t1 + 1) = 3 ∧ W (t1 + 1) ≤ 64) (hr : l_rt K W (m + 1) (t1 + 2) none) : l_pt K W m t none := by
  have hi := l_pl_is h
  obtain ⟨a, h⟩ := h
  obtain ⟨b, hr⟩ := hr
  refine ⟨a + b, fun f g hf hg => ?_⟩
  cases g with
  | zero => rw [lp_pt]
  | succ g =>
    have h := h f (by omega)
    rw [if_pos hi] at h
    have hr := hr f g (by omega) (by omega)
    rw [lp_pt]
    by_cases hm : lp_is (K t) (W t) = true ∧ m < 8
    · rw [if_pos hm, h]
      dsimp only
      rw [if_pos hw]
      by_cases hc : K (t1 + 2) = 5 ∧ W (t1 + 2) = 44
      · rw [if_pos hc] at hr ⊢
        have hr : lp_pt K W f g (m + 1) (t1 + 3) = none := hr
        rw [hr]
      · rw [if_neg hc] at hr ⊢
        by_cases hd : K (t1 + 2) = 5 ∧ W (t1 + 2) = 125
        · rw [if_pos hd] at hr
          cases hr
        · rw [if_neg hd]
    · rw [if_neg hm]
theorem l_pt_8 (hm : 8 ≤ m) : l_pt K W m t none := by
  refine ⟨0, fun f g hf hg => ?_⟩
  cases g with
  | zero => rw [lp_pt]
  | succ g => rw [lp_pt, if_neg (by omega)]
theorem l_rt_c {r : Option (Nat × List Int)} (hc : K t = 5 ∧ W t = 44) (h : l_pt K W m (t + 1) r) : l_rt K W m t r := by
  obtain ⟨a, h⟩ := h
  exact ⟨a, fun f g hf hg => by rw [if_pos hc]; exact h f g hf hg⟩
end LP
section BL
variable {lo n n1 n2 : Nat} {SH SH1 SH2 : Nat → Nat × Nat} {FI F1 F2 : Nat → Nat → Int32} {FL L1 L2 : Nat → Nat → Int64} {FR R1 R2 : Nat → Nat → Option Nat}
theorem b_lo (h : b_ct n SH FI FL FR n2 SH2 F2 L2 R2) (hl : lo ≤ n) : b_ct lo SH FI FL FR n2 SH2 F2 L2 R2 := by
  have := h.1
  exact ⟨by omega, h.2.1, fun c k g1 g2 => h.2.2.1 c k (by omega) g2, fun c k g1 g2 => h.2.2.2.1 c k (by omega) g2, fun c k g1 => h.2.2.2.2.1 c k (by omega), h.2.2.2.2.2.1, fun c g1 => h.2.2.2.2.2.2 c (by omega)⟩
theorem b_t0 (h : b_ct lo SH FI FL FR n1 SH1 F1 L1 R1) (h2 : b_ct lo SH1 F1 L1 R1 n2 SH2 F2 L2 R2) : b_ct lo SH FI FL FR n2 SH2 F2 L2 R2 :=
  ⟨h2.1, h2.2.1, fun c k g1 g2 => (h2.2.2.1 c k g1 g2).trans (h.2.2.1 c k g1 g2), fun c k g1 g2 => (h2.2.2.2.1 c k g1 g2).trans (h.2.2.2.1 c k g1 g2), fun c k g1 => (h2.2.2.2.2.1 c k g1).trans (h.2.2.2.2.1 c k g1), fun h3 => h2.2.2.2.2.2.1 (h.2.2.2.2.2.1 h3), fun c g1 => (h2.2.2.2.2.2.2 c g1).trans (h.2.2.2.2.2.2 c g1)⟩
theorem b_wd {c : Nat} (hQ : h_S n SH) (hn : lo ≤ n) (hc : lo ≤ c) (ha : a_wd c FI F2 FL L2) (hf : (FI 110 5).toInt ≠ 0 → (F2 110 5).toInt ≠ 0) : b_ct lo SH FI FL FR n SH F2 L2 FR :=
  ⟨hn, hQ, fun q k g1 g2 => ha.1 q k (fun e => g2 (Or.inl e)) (by omega), fun q k g1 g2 => ha.2 q k g2, fun _ _ _ => rfl, hf, fun _ _ => rfl⟩
end BL
section SM
variable {K W : Nat → Int} {M : Nat}
/-- one more part behind a fault -/
theorem s_80f {lo a l g n sl : Nat} {SH : Nat → Nat × Nat} {FI : Nat → Nat → Int32} {FL : Nat → Nat → Int64} {FR : Nat → Nat → Option Nat} {v : Option Nat} {s : hS} {l3 : Int32} (hQ : h_S n SH) (hf : s_ft FI) (hl : lo ≤ l) (hn : lo ≤ n) (h : RX4_readLocation_80 (GX4_readLocation_39 g) (some a) (some l) l3 n sl SH FI FL FR v s) : ∃ n2 sl2 SH2 F2 L2 R2, v = some a ∧ s = (n2, sl2, SH2, F2, L2, R2) ∧ n ≤ n2 ∧ b_ct lo SH FI FL FR n2 SH2 F2 L2 R2 ∧ s_ft F2 := by
  have h176 := hQ.1
  obtain ⟨v0, n0, sl0, SH0, FI0, FL0, FR0, hp, c2, e2, c3, e3, v3, n3, sl3, SH3, FI3, FL3, FR3, hw, hK⟩ := h
  cases e2
  cases e3
  obtain ⟨sl1, SH1, F1, L1, R1, rfl, e, b1, ft⟩ := s_place_f hQ hf hp
  cases e
  rw [h_up_eq] at hw hK
  obtain ⟨F3, e, a3, ft3⟩ := s_width_f h176 ft hw
  cases e
  obtain ⟨x, rfl, rfl⟩ := s_lf ft3 hK
  exact ⟨_, _, _, _, _, _, rfl, rfl, by omega, b_w4 (b_t0 (b_wR (b_lo b1 hn) hl) (b_wd b1.2.1 (by omega) hn a3 (fun _ => ft3.1))), ft_4 ft3⟩
theorem s_lp {lo a : Nat} (h176 : 176 ≤ lo) : ∀ (g l : Nat) (l3 : Int32) (n sl : Nat) (SH : Nat → Nat × Nat) (FI : Nat → Nat → Int32) (FL : Nat → Nat → Int64) (FR : Nat → Nat → Option Nat) (v : Option Nat) (s : hS) (t i : Nat) (code : List Int), GX4_readLocation_39 g (some a) (some l) l3 n sl SH FI FL FR v s → h_S n SH → q_tk K W M FI FL → s_vw M FI FL t 1 → l3.toInt = i → 1 ≤ i → i ≤ 8 → m_cw FI FL FR SH lo n a l code → FR l 5 = none → ∃ n2 sl2 SH2 F2 L2 R2, v = some a ∧ s = (n2, sl2, SH2, F2, L2, R2) ∧ n ≤ n2 ∧ b_ct lo SH FI FL FR n2 SH2 F2 L2 R2 ∧ ((∃ t2 code2, l_rt K W i t (some (t2, code2)) ∧ t < t2 ∧ s_vw M F2 L2 t2 0 ∧ m_lc F2 L2 R2 SH2 lo n2 a (code ++ code2)) ∨ (l_rt K W i t none ∧ s_ft F2)) := by
  have z8 : ((8 : Int32)).toInt = 8 := by decide
  have z44 : ((44 : Int32)).toInt = 44 := by decide
  intro g
  induction g with
  | zero => intro l l3 n sl SH FI FL FR v s t i code h; exact h.elim
  | succ g ih =>
    intro l l3 n sl SH FI FL FR v s t i code h hQ hq hv hl3 hi1 hi8 hw h5
    have hn176 := hQ.1
    have y1 := hw.2.1
    have y2 := hw.2.2.1
    have kd := s_kd hq hv
    rcases h with ⟨h8, h⟩ | ⟨-, h⟩
    · exfalso
      rw [z8] at h8
      omega
    · rcases h with ⟨h44, h⟩ | ⟨h44, h⟩
      · rw [z44] at h44
        rcases kd with ⟨ht, kd, -, kr, -⟩ | ⟨-, -, kd⟩
        · have ce := ck_e kr
          have hK : K t = 5 ∧ W t = 44 := by omega
          obtain ⟨v4, n4, sl4, SH4, FI4, FL4, FR4, hk, h⟩ := h
          obtain ⟨F4, L4, e, a4, w4⟩ := s_take hk hq hv ht
          cases e
          have q4 := q_a hq a4
          have b4 : b_ct lo SH FI FL FR n SH FI4 FL4 FR := b_lo (b_a hQ a4 (fun h => absurd hv.1 h)) (by omega)
          have key : i < 8 ∨ lp_is (K (t + 1)) (W (t + 1)) = false → RX4_readLocation_80 (GX4_readLocation_39 g) (some a) (some l) l3 n sl SH FI4 FL4 FR v s → ∃ n2 sl2 SH2 F2 L2 R2, v = some a ∧ s = (n2, sl2, SH2, F2, L2, R2) ∧ n ≤ n2 ∧ b_ct lo SH FI FL FR n2 SH2 F2 L2 R2 ∧ ((∃ t2 code2, l_rt K W i t (some (t2, code2)) ∧ t < t2 ∧ s_vw M F2 L2 t2 0 ∧ m_lc F2 L2 R2 SH2 lo n2 a (code ++ code2)) ∨ (l_rt K W i t none ∧ s_ft F2)) := by
            intro hi h
            obtain ⟨v0, n0, sl0, SH0, FI0, FL0, FR0, hp, c2, e2, c3, e3, v3, n3, sl3, SH3, FI3, FL3, FR3, hw3, hK3⟩ := h
            cases e2
            cases e3
            obtain ⟨n1, sl1, SH1, F1, L1, R1, rfl, e, nn, b1, p4, p5, po⟩ := s_place hQ q4 w4 (by decide) (by decide) hp
            cases e
            rw [h_up_eq] at hw3 hK3
            have hQ0 := b1.2.1
            have b5 := b_wR (k := 5) (x := some n) (b_t0 b4 (b_lo b1 (by omega))) y1
            rcases po with ⟨t1, cp, lev, ht1, w1, mp⟩ | ⟨lev, ft⟩
            · have q0 := q_b q4 b1 hn176
              obtain ⟨F3, L3, e, a3, r3⟩ := s_width hn176 q0 w1 hw3
              cases e
              rcases r3 with ⟨wk, w0, x4, w3⟩ | ⟨wk, ft⟩
              · have i8 : i < 8 := by
                  rcases hi with hi | hi
                  · exact hi
                  · exfalso
                    rw [l_pl_is lev] at hi
                    cases hi
                -- what lay below stays
                have g0 : ∀ q k, lo ≤ q → q < n → FI3 q k = FI q k := fun q k z1 z2 => by rw [a3.1 q k (by omega) (by omega), b1.2.2.1 q k (by omega) (by omega), a4.1 q k (by omega)]
                have g1 : ∀ q k, lo ≤ q → q < n → FL3 q k = FL q k := fun q k z1 z2 => by rw [a3.2 q k (by omega), b1.2.2.2.1 q k (by omega) (by omega), a4.2 q k (by omega)]
                have g2 : ∀ q k, lo ≤ q → q < n → ¬ (q = l ∧ k = 5) → h_up FR0 l 5 (some n) q k = FR q k := fun q k z1 z2 z3 => by rw [h_up_x z3, b1.2.2.2.2.1 q k (by omega)]
                have g3 : ∀ q, lo ≤ q → q < n → SH0 q = SH q := fun q z1 z2 => b1.2.2.2.2.2.2 q (by omega)
                have hw2 : m_cw FI3 FL3 (h_up FR0 l 5 (some n)) SH0 lo n a l code := m_cw_fr hw ⟨g0, g1, g2, g3⟩
                have mp2 : m_pl FI3 FL3 (h_up FR0 l 5 (some n)) SH0 n n0 n cp := m_pl_fr mp ⟨fun q k z1 z2 z3 => a3.1 q k (by omega) z3, fun q k z1 z2 => a3.2 q k (by omega), fun q k z1 z2 _ => by rw [h_up_nc (by omega)], fun q z1 z2 => rfl⟩
                have hw4 := m_cw_s hw2 mp2 x4 w0 h_up_eq (Nat.le_refl _)
                have q3 : q_tk K W M FI3 FL3 := q_fr q0 ⟨by funext k; exact a3.1 112 k (by omega) (by omega), a3.1 111 4 (by omega) (by omega), by funext k; exact a3.2 113 k (by omega)⟩
                obtain ⟨n6, sl6, SH6, F6, L6, R6, rfl, rfl, nn6, b6, res⟩ := ih n _ n0 sl0 SH0 FI3 FL3 _ v s (t1 + 2) (i + 1) _ hK3 hQ0 q3 w3 (by rw [i_add hl3 (by decide : ((1 : Int32)).toInt = 1) (by omega) (by omega)]; omega) (by omega) (by omega) hw4 (by rw [h_up_nc (by omega)]; exact p5)
                have b7 := b_t0 (b_t0 b5 (b_wd hQ0 (by omega) (by omega) a3 (fun h => absurd w1.1 h))) b6
                refine ⟨_, _, _, _, _, _, rfl, rfl, by omega, b7, ?_⟩
                rcases res with ⟨t2, code2, r1, r2, r3, r4⟩ | ⟨r1, ft⟩
                · refine Or.inl ⟨t2, _, l_rt_c hK (l_pt_ok i8 lev wk r1), by omega, r3, ?_⟩
                  rw [← List.append_assoc]
                  exact r4
                · exact Or.inr ⟨l_rt_c hK (l_pt_n3 lev wk r1), ft⟩
              · obtain ⟨x, rfl, rfl⟩ := s_lf ft hK3
                exact ⟨_, _, _, _, _, _, rfl, rfl, by omega, b_w4 (b_t0 b5 (b_wd hQ0 (by omega) (by omega) a3 (fun _ => ft.1))), Or.inr ⟨l_rt_c hK (l_pt_n2 lev wk), ft_4 ft⟩⟩
            · obtain ⟨F3, e, a3, ft3⟩ := s_width_f hn176 ft hw3
              cases e
              obtain ⟨x, rfl, rfl⟩ := s_lf ft3 hK3
              exact ⟨_, _, _, _, _, _, rfl, rfl, by omega, b_w4 (b_t0 b5 (b_wd hQ0 (by omega) (by omega) a3 (fun _ => ft3.1))), Or.inr ⟨l_rt_c hK (l_pt_n1 lev), ft_4 ft3⟩⟩
          rcases h with ⟨hi, h⟩ | ⟨hi, h⟩
          · rw [z8] at hi
            rcases h with ⟨hb, h⟩ | ⟨hb, h⟩
            · refine key (Or.inr ?_) h
              rw [s_begins] at hb
              have is := (s_is q4 w4).1
              cases hx : lp_is (K (t + 1)) (W (t + 1)) with
              | false => rfl
              | true => exact absurd (is.mp hx) hb
            · obtain ⟨v8, n8, sl8, SH8, FI8, FL8, FR8, hr, h⟩ := h
              obtain ⟨F8, e, a8, ft⟩ := s_refuse hr (by decide) q4 w4
              cases e
              obtain ⟨n2, sl2, SH2, F2, L2, R2, rfl, rfl, nn9, b9, ft9⟩ := s_80f hQ ft y1 (by omega) h
              exact ⟨_, _, _, _, _, _, rfl, rfl, nn9, b_t0 (b_t0 b4 (b_lo (b_a hQ a8 (fun h => absurd w4.1 h)) (by omega))) b9, Or.inr ⟨l_rt_c hK (l_pt_8 (by omega)), ft9⟩⟩
          · rw [z8] at hi
            exact key (Or.inl (by omega)) h
        · exfalso; omega
      · rw [z44] at h44
        obtain ⟨v9, n9, sl9, SH9, FI9, FL9, FR9, hx, rfl, rfl⟩ := h
        obtain ⟨F9, L9, e, a9, r9⟩ := s_expect (w := 125) hx (by decide) (by decide) hq hv
        cases e
        have b9 : b_ct lo SH FI FL FR n SH FI9 FL9 FR := b_lo (b_a hQ a9 (fun h => absurd hv.1 h)) (by omega)
        have n44 : ¬ (K t = 5 ∧ W t = 44) := by
          intro h
          rcases kd with ⟨-, kd, -, kr, -⟩ | ⟨-, kK, -⟩
          · have ce := ck_e kr
            omega
          · omega
        refine ⟨_, _, _, _, _, _, rfl, rfl, Nat.le_refl _, b_w4 b9, ?_⟩
        rcases r9 with ⟨ht, r, w9⟩ | ⟨r, ft⟩
        · have kr := (hq.2.1 t ht).2.1
          have ce := ck_e kr
          have hm := m_cw_e hw h5
          refine Or.inl ⟨t + 1, [], ⟨0, fun f g _ _ => ?_⟩, by omega, s_low (o := 0) w9 (by decide) (by decide), ?_⟩
          · rw [if_neg n44, if_pos (by omega)]
          · rw [List.append_nil]
            exact m_lc_fr hm ⟨fun q k z1 z2 => by rw [h_up_nc (by omega)]; exact a9.1 q k (by omega), fun q k z1 z2 => a9.2 q k (by omega), fun q k z1 z2 => rfl, fun q z1 z2 => rfl⟩
        · refine Or.inr ⟨⟨0, fun f g _ _ => ?_⟩, ft_4 ft⟩
          have n125 : ¬ (K t = 5 ∧ W t = 125) := by
            intro h
            rcases kd with ⟨k1, -, -, kr, -⟩ | ⟨-, kK, -⟩
            · have ce := ck_e kr
              have := r k1
              omega
            · omega
          rw [if_neg n44, if_neg n125]
/-- lp_lc with fuel enough -/
def l_lc (K W : Nat → Int) (t : Nat) (r : Option (Nat × List Int)) : Prop := ∃ F0, ∀ f, F0 ≤ f → lp_lc K W f t = r
theorem s_location {n sl : Nat} {SH : Nat → Nat × Nat} {FI : Nat → Nat → Int32} {FL : Nat → Nat → Int64} {FR : Nat → Nat → Option Nat} {v : Option Nat} {s : hS} {t : Nat} (hQ : h_S n SH) (hq : q_tk K W M FI FL) (hv : s_vw M FI FL t 0) (h : RX4_readLocation n sl SH FI FL FR v s) : ∃ n2 sl2 SH2 F2 L2 R2, v = some n ∧ s = (n2, sl2, SH2, F2, L2, R2) ∧ n < n2 ∧ b_ct n SH FI FL FR n2 SH2 F2 L2 R2 ∧ ((∃ t2 code, l_lc K W t (some (t2, code)) ∧ t < t2 ∧ s_vw M F2 L2 t2 0 ∧ m_lc F2 L2 R2 SH2 n n2 n code) ∨ (l_lc K W t none ∧ s_ft F2)) := by
  have h176 := hQ.1
  have z123 : ((123 : Int32)).toInt = 123 := by decide
  have kd := s_kd hq hv
  rcases h with ⟨hc, h⟩ | ⟨hc, h⟩
  · rw [z123] at hc
    rcases kd with ⟨ht, kd, -, kr, -⟩ | ⟨-, -, kd⟩
    · have ce := ck_e kr
      have hK : K t = 5 ∧ W t = 123 := by omega
      have hlc : ∀ r, l_pt K W 0 (t + 1) r → l_lc K W t r := fun r ⟨a, h⟩ => ⟨a, fun f hf => by unfold lp_lc; rw [if_pos hK]; exact h f 20 hf (by decide)⟩
      obtain ⟨v1, n1, sl1, SH1, FI1, FL1, FR1, hr, h⟩ := h
      obtain ⟨F1, e, a1, r1⟩ := s_raise hr hq hv (by decide)
      cases e
      rcases r1 with ⟨-, x1, w1⟩ | ⟨ho, -, -⟩
      · rcases h with ⟨hz, -⟩ | ⟨-, h⟩
        · exfalso; omega
        · obtain ⟨v4, n4, sl4, SH4, FI4, FL4, FR4, hk, v5, n5, sl5, SH5, FI5, FL5, FR5, hp, v6, n6, sl6, SH6, FI6, FL6, FR6, hw, h⟩ := h
          have q1 := q_a hq a1
          obtain ⟨F4, L4, e, a4, w4⟩ := s_take hk q1 w1 ht
          cases e
          have q4 := q_a q1 a4
          have b4 := b_tr (b_a (FR := FR) hQ a1 (fun h => absurd hv.1 h)) (b_a hQ a4 (fun h => absurd w1.1 h))
          obtain ⟨n2, sl2, SH2, F2, L2, R2, rfl, e, nn, b1, p4, p5, po⟩ := s_place hQ q4 w4 (by decide) (by decide) hp
          cases e
          have hQ5 := b1.2.1
          have b5 := b_tr b4 b1
          obtain ⟨gl, h⟩ := h
          rcases po with ⟨t1, cp, lev, ht1, w5, mp⟩ | ⟨lev, ft⟩
          · have q5 := q_b q4 b1 h176
            obtain ⟨F6, L6, e, a6, r6⟩ := s_width h176 q5 w5 hw
            cases e
            have b6 := b_t0 b5 (b_wd (FR := FR5) hQ5 (by omega) (Nat.le_refl n) a6 (fun h => absurd w5.1 h))
            rcases r6 with ⟨wk, w0, x4, w6⟩ | ⟨wk, ft⟩
            · have mp2 : m_pl FI6 FL6 FR5 SH5 n n5 n cp := m_pl_fr mp ⟨fun q k z1 z2 z3 => a6.1 q k (by omega) z3, fun q k z1 z2 => a6.2 q k (by omega), fun q k z1 z2 _ => rfl, fun q z1 z2 => rfl⟩
              have q6 : q_tk K W M FI6 FL6 := q_fr q5 ⟨by funext k; exact a6.1 112 k (by omega) (by omega), a6.1 111 4 (by omega) (by omega), by funext k; exact a6.2 113 k (by omega)⟩
              obtain ⟨n7, sl7, SH7, F7, L7, R7, rfl, rfl, nn7, b7, res⟩ := s_lp h176 gl n _ n5 sl5 SH5 FI6 FL6 FR5 v s (t1 + 2) 1 _ h hQ5 q6 w6 (by decide) (by decide) (by decide) (m_cw_1 mp2 x4 w0) p5
              refine ⟨_, _, _, _, _, _, rfl, rfl, by omega, b_t0 b6 b7, ?_⟩
              rcases res with ⟨t2, code2, r1, r2, r3, r4⟩ | ⟨r1, ft⟩
              · exact Or.inl ⟨t2, _, hlc _ (l_pt_ok (by decide) lev wk r1), by omega, r3, r4⟩
              · exact Or.inr ⟨hlc _ (l_pt_n3 lev wk r1), ft⟩
            · obtain ⟨x, rfl, rfl⟩ := s_lf ft h
              exact ⟨_, _, _, _, _, _, rfl, rfl, nn, b_w4 b6, Or.inr ⟨hlc _ (l_pt_n2 lev wk), ft_4 ft⟩⟩
          · obtain ⟨F6, e, a6, ft6⟩ := s_width_f h176 ft hw
            cases e
            obtain ⟨x, rfl, rfl⟩ := s_lf ft6 h
            exact ⟨_, _, _, _, _, _, rfl, rfl, nn, b_w4 (b_t0 b5 (b_wd (FR := FR5) hQ5 (by omega) (Nat.le_refl n) a6 (fun _ => ft6.1))), Or.inr ⟨hlc _ (l_pt_n1 lev), ft_4 ft6⟩⟩
      · exfalso; omega
    · exfalso; omega
  · rw [z123] at hc
    have nK : ¬ (K t = 5 ∧ W t = 123) := by
      intro h
      rcases kd with ⟨-, kd, -, kr, -⟩ | ⟨-, kK, -⟩
      · have ce := ck_e kr
        omega
      · omega
    obtain ⟨v7, n7, sl7, SH7, FI7, FL7, FR7, hp, rfl, rfl⟩ := h
    obtain ⟨n2, sl2, SH2, F2, L2, R2, rfl, e, nn, b1, p4, p5, po⟩ := s_place hQ hq hv (by decide) (by decide) hp
    cases e
    refine ⟨_, _, _, _, _, _, rfl, rfl, nn, b1, ?_⟩
    rcases po with ⟨t1, cp, ⟨a, lev⟩, ht1, w5, mp⟩ | ⟨⟨a, lev⟩, ft⟩
    · exact Or.inl ⟨t1, cp, ⟨a, fun f hf => by unfold lp_lc; rw [if_neg nK]; exact lev f hf⟩, ht1, w5, m_lc_1 mp p4 p5⟩
    · exact Or.inr ⟨⟨a, fun f hf => by unfold lp_lc; rw [if_neg nK]; exact lev f hf⟩, ft⟩
end SM
end
section
/-! THE CLASS'S PARSER: rows. -/
def r_ok (K W : Nat → Int) (m t : Nat) : Prop := K t = 3 ∧ m < 8 ∧ K (t + 1) = 5 ∧ W (t + 1) = 256 ∧ K (t + 2) = 3 ∧ W t < W (t + 2) ∧ K (t + 3) = 5 ∧ W (t + 3) = 58
abbrev r_Q : Type := Int × Int × List Int
def rw_fl (Q : List r_Q) : List Int := (Q.map (fun q => lc_by q.1 8 ++ (lc_by q.2.1 8 ++ (lc_by (q.2.2.length : Int) 2 ++ q.2.2)))).flatten
def rw_b (Q : List r_Q) : Bool := Q.any (fun q => decide (300 < q.2.2.length))
def l_rw (K W : Nat → Int) (m t : Nat) (r : Option (Nat × Nat × List Int × Bool)) : Prop := ∃ F0, ∀ f g, F0 ≤ f → 20 ≤ g + m → lp_rw K W f g m t = r
/-- behind a row -/
def l_rr (K W : Nat → Int) (m t : Nat) (r : Option (Nat × Nat × List Int × Bool)) : Prop := ∃ F0, ∀ f g, F0 ≤ f → 20 ≤ g + m → (if K t = 5 ∧ W t = 44 then lp_rw K W f g m (t + 1) else some (t, m, [], false)) = r
section LR
variable {K W : Nat → Int} {m t t1 t2 m2 : Nat} {c c2 : List Int} {b2 : Bool}
theorem l_rw_ok (h : r_ok K W m t) (hl : l_lc K W (t + 4) (some (t1, c))) (hr : l_rr K W (m + 1) t1 (some (t2, m2, c2, b2))) : l_rw K W m t (some (t2, m2, lc_by (W t) 8 ++ (lc_by (W (t + 2)) 8 ++ (lc_by (c.length : Int) 2 ++ (c ++ c2))), decide (300 < c.length) || b2)) := by
  unfold r_ok at h
  obtain ⟨a, hl⟩ := hl
  obtain ⟨b, hr⟩ := hr
  have hm := h.2.1
  refine ⟨a + b, fun f g hf hg => ?_⟩
  cases g with
  | zero => omega
  | succ g =>
    have hr := hr f g (by omega) (by omega)
    rw [lp_rw, if_pos h, hl f (by omega)]
    dsimp only
    by_cases hc : K t1 = 5 ∧ W t1 = 44
    · rw [if_pos hc] at hr ⊢
      rw [hr]
    · rw [if_neg hc] at hr ⊢
      cases hr
      rw [List.append_nil, Bool.or_false]
theorem l_rw_n (h : ¬ r_ok K W m t) : l_rw K W m t none := by
  unfold r_ok at h
  refine ⟨0, fun f g hf hg => ?_⟩
  cases g with
  | zero => rw [lp_rw]
  | succ g => rw [lp_rw, if_neg h]
theorem l_rw_n1 (h : r_ok K W m t) (hl : l_lc K W (t + 4) none) : l_rw K W m t none := by
  unfold r_ok at h
  obtain ⟨a, hl⟩ := hl
  refine ⟨a, fun f g hf hg => ?_⟩
  cases g with
  | zero => rw [lp_rw]
  | succ g => rw [lp_rw, if_pos h, hl f hf]
theorem l_rw_n2 (h : r_ok K W m t) (hl : l_lc K W (t + 4) (some (t1, c))) (hr : l_rr K W (m + 1) t1 none) : l_rw K W m t none := by
  unfold r_ok at h
  obtain ⟨a, hl⟩ := hl
  obtain ⟨b, hr⟩ := hr
  refine ⟨a + b, fun f g hf hg => ?_⟩
  cases g with
  | zero => rw [lp_rw]
  | succ g =>
    have hr := hr f g (by omega) (by omega)
    rw [lp_rw, if_pos h, hl f (by omega)]
    dsimp only
    by_cases hc : K t1 = 5 ∧ W t1 = 44
    · rw [if_pos hc] at hr ⊢
      rw [hr]
    · rw [if_neg hc] at hr
      cases hr
theorem l_rr_c {r : Option (Nat × Nat × List Int × Bool)} (hc : K t = 5 ∧ W t = 44) (h : l_rw K W m (t + 1) r) : l_rr K W m t r := by
  obtain ⟨a, h⟩ := h
  exact ⟨a, fun f g hf hg => by rw [if_pos hc]; exact h f g hf hg⟩
theorem l_rr_e (hc : ¬ (K t = 5 ∧ W t = 44)) : l_rr K W m t (some (t, m, [], false)) := ⟨0, fun f g _ _ => by rw [if_neg hc]⟩
end LR
section SR
variable {K W : Nat → Int} {M : Nat} {n sl : Nat} {SH : Nat → Nat × Nat} {FI : Nat → Nat → Int32} {FL : Nat → Nat → Int64} {FR : Nat → Nat → Option Nat} {s : hS} {t : Nat} {o : Int}
/-- what a range changes -/
def a_rg (x m : Nat) (FI F2 : Nat → Nat → Int32) (FL L2 : Nat → Nat → Int64) : Prop := (∀ q k, ¬ (q = 110 ∧ 4 ≤ k ∧ k ≤ 8) → ¬ (q = x ∧ k = 5) → F2 q k = FI q k) ∧ (∀ q k, ¬ (q = 110 ∧ k = 9) → ¬ ((q = x + 1 ∨ q = x + 2) ∧ k = m) → L2 q k = FL q k)
theorem s_range_f {x : Nat} {a2 : Int32} {u : Unit} (hf : s_ft FI) (h : RX4_readRange (some x) a2 n sl SH FI FL FR u s) : s = (n, sl, SH, FI, FL, FR) := by
  rcases h with ⟨h5, -⟩ | ⟨-, h⟩
  · exfalso
    rw [hf.2] at h5
    revert h5
    decide
  · obtain ⟨v27, n27, sl27, SH27, FI27, FL27, FR27, hr, -, rfl⟩ := h
    exact s_refuse_f hr hf.1
theorem s_wL2 {c k : Nat} {x : Int64} (hc : 176 ≤ c) (hf : s_ft FI) {u : Unit} {a : Int32} (h : RX4_expect a n sl SH FI (h_up FL c k x) FR u s) : s = (n, sl, SH, FI, h_up FL c k x, FR) := s_expect_f h hf.1
theorem s_range {x m : Nat} {a2 : Int32} {u : Unit} (hx : 176 ≤ x) (ha : a2.toInt = m) (h2 : FR x 2 = some (x + 1)) (h3 : FR x 3 = some (x + 2)) (hq : q_tk K W M FI FL) (hv : s_vw M FI FL t o) (h : RX4_readRange (some x) a2 n sl SH FI FL FR u s) : ∃ F2 L2, s = (n, sl, SH, F2, L2, FR) ∧ a_rg x m FI F2 FL L2 ∧ ((r_ok K W m t ∧ (F2 x 5).toInt = ((m + 1 : Nat) : Int) ∧ (L2 (x + 1) m).toInt = W t ∧ (L2 (x + 2) m).toInt = W (t + 2) ∧ 0 ≤ W t ∧ 0 ≤ W (t + 2) ∧ s_vw M F2 L2 (t + 4) o) ∨ (¬ r_ok K W m t ∧ s_ft F2)) := by
  have z5 : ((5 : Int32)).toInt = 5 := by decide
  have z8 : ((8 : Int32)).toInt = 8 := by decide
  have kd := s_kd hq hv
  rcases h with ⟨h5, h⟩ | ⟨h5, h⟩
  · rw [z5] at h5
    rcases kd with ⟨ht, kd, -, kr, k3, -⟩ | ⟨-, -, kd⟩
    · have ce := ck_e kr
      have hK : K t = 3 := by omega
      obtain ⟨j1, j2, j3⟩ := k3 hK
      rcases h with ⟨h0, -⟩ | ⟨-, h⟩
      · exfalso; omega
      · rcases h with ⟨h8, h⟩ | ⟨h8, h⟩
        · rw [z8] at h8
          obtain ⟨c5, e5, c6, e6, c7, e7, -, v7, n7, sl7, SH7, FI7, FL7, FR7, hk, v8, n8, sl8, SH8, FI8, FL8, FR8, hx8, h⟩ := h
          cases e5
          cases e6
          rw [h2] at e7
          cases e7
          have em : a2.toInt.toNat = m := by omega
          rw [em] at hk
          obtain ⟨q1, w1⟩ := s_wL (c := x + 1) (k := m) (x := FL 110 9) (by omega) (s_wI (c := x) (k := 5) (x := a2 + (1 : Int32)) hx ⟨hq, hv⟩)
          obtain ⟨F7, L7, e, a7, w7⟩ := s_take hk q1 w1 ht
          cases e
          have q7 := q_a q1 a7
          obtain ⟨F8, L8, e, a8, r8⟩ := s_expect (w := 17) hx8 (by decide) (by decide) q7 w7
          cases e
          have q8 := q_a q7 a8
          have f5 : (FI8 x 5).toInt = ((m + 1 : Nat) : Int) := by rw [a8.1 x 5 (by omega), a7.1 x 5 (by omega), h_up_eq, i_add ha (by decide : ((1 : Int32)).toInt = 1) (by omega) (by omega)]; omega
          have l1 : (FL8 (x + 1) m).toInt = W t := by rw [a8.2 (x + 1) m (by omega), a7.2 (x + 1) m (by omega), h_up_eq]; exact j1
          have g0 : ∀ q k, ¬ (q = 110 ∧ 4 ≤ k ∧ k ≤ 8) → ¬ (q = x ∧ k = 5) → FI8 q k = FI q k := fun q k y1 y2 => by rw [a8.1 q k y1, a7.1 q k y1, h_up_x y2]
          have g1 : ∀ q k, ¬ (q = 110 ∧ k = 9) → ¬ ((q = x + 1 ∨ q = x + 2) ∧ k = m) → FL8 q k = FL q k := fun q k y1 y2 => by rw [a8.2 q k y1, a7.2 q k y1, h_up_x (by omega)]
          rcases r8 with ⟨ht8, r8, w8⟩ | ⟨r8, ft⟩
          · have kr1 := (q7.2.1 (t + 1) ht8).2.1
            have ce1 := ck_e kr1
            have hK1 : K (t + 1) = 5 ∧ W (t + 1) = 256 := by omega
            have kd2 := s_kd q8 w8
            rcases h with ⟨h5', h⟩ | ⟨h5', h⟩
            · rw [z5] at h5'
              rcases kd2 with ⟨ht9, kd2, -, kr2, k32, -⟩ | ⟨-, -, kd2⟩
              · have ce2 := ck_e kr2
                rw [show t + 1 + 1 = t + 2 from rfl] at ce2 kd2 k32
                have hK2 : K (t + 2) = 3 := by omega
                obtain ⟨i1, i2, i3⟩ := k32 hK2
                obtain ⟨c11, e11, c12, e12, -, h⟩ := h
                cases e11
                rw [h2] at e12
                cases e12
                rw [em, l1] at h
                rcases h with ⟨hlt, h⟩ | ⟨hlt, h⟩
                · have hlt : W t < W (t + 2) := by rw [← i1]; exact hlt
                  obtain ⟨c14, e14, c15, e15, -, v15, n15, sl15, SH15, FI15, FL15, FR15, hx15, v16, n16, sl16, SH16, FI16, FL16, FR16, hx16, -, rfl⟩ := h
                  cases e14
                  rw [h3] at e15
                  cases e15
                  obtain ⟨q9, w9⟩ := s_wL (c := x + 2) (k := m) (x := FL8 110 9) (by omega) ⟨q8, w8⟩
                  obtain ⟨F15, L15, e, a15, r15⟩ := s_expect (w := 5) hx15 (by decide) (by decide) q9 w9
                  cases e
                  have q15 := q_a q9 a15
                  rcases r15 with ⟨ht15, -, w15⟩ | ⟨r15, -⟩
                  · obtain ⟨F16, L16, e, a16, r16⟩ := s_expect (w := 58) hx16 (by decide) (by decide) q15 w15
                    cases e
                    refine ⟨_, _, rfl, ⟨fun q k y1 y2 => by rw [a16.1 q k y1, a15.1 q k y1]; exact g0 q k y1 y2, fun q k y1 y2 => by rw [a16.2 q k y1, a15.2 q k y1, h_up_x (by omega)]; exact g1 q k y1 y2⟩, ?_⟩
                    rcases r16 with ⟨ht16, r16, w16⟩ | ⟨r16, ft⟩
                    · have kr3 := (q15.2.1 (t + 1 + 1 + 1) ht16).2.1
                      have ce3 := ck_e kr3
                      have hK3 : K (t + 3) = 5 ∧ W (t + 3) = 58 := by
                        have e : t + 1 + 1 + 1 = t + 3 := rfl
                        rw [e] at ce3 r16
                        omega
                      refine Or.inl ⟨⟨hK, by omega, hK1.1, hK1.2, hK2, hlt, hK3.1, hK3.2⟩, ?_, ?_, ?_, j2, i2, w16⟩
                      · rw [a16.1 x 5 (by omega), a15.1 x 5 (by omega)]; exact f5
                      · rw [a16.2 (x + 1) m (by omega), a15.2 (x + 1) m (by omega), h_up_x (by omega)]; exact l1
                      · rw [a16.2 (x + 2) m (by omega), a15.2 (x + 2) m (by omega), h_up_eq]; exact i1
                    · refine Or.inr ⟨fun hk => ?_, ft⟩
                      rcases s_kd q15 w15 with ⟨k1, -, -, kr3, -⟩ | ⟨-, k1, -⟩
                      · have ce3 := ck_e kr3
                        have r16 := r16 k1
                        have e : t + 1 + 1 + 1 = t + 3 := rfl
                        rw [e] at ce3 r16
                        have := hk.2.2.2.2.2.2
                        omega
                      · have e : t + 1 + 1 + 1 = t + 3 := rfl
                        rw [e] at k1
                        have := hk.2.2.2.2.2.2
                        omega
                  · exfalso
                    have r15 := r15 ht9
                    rw [show t + 1 + 1 = t + 2 from rfl] at r15
                    omega
                · have hlt : ¬ W t < W (t + 2) := by rw [← i1]; exact hlt
                  obtain ⟨v17, n17, sl17, SH17, FI17, FL17, FR17, hr, c19, e19, c20, e20, -, v20, n20, sl20, SH20, FI20, FL20, FR20, hx20, v21, n21, sl21, SH21, FI21, FL21, FR21, hx21, -, rfl⟩ := h
                  obtain ⟨F17, e, a17, ft⟩ := s_refuse hr (by decide) q8 w8
                  cases e
                  cases e19
                  rw [h3] at e20
                  cases e20
                  have e := s_expect_f hx20 ft.1
                  cases e
                  have e := s_expect_f hx21 ft.1
                  cases e
                  exact ⟨_, _, rfl, ⟨fun q k y1 y2 => by rw [a17.1 q k y1]; exact g0 q k y1 y2, fun q k y1 y2 => by rw [h_up_x (by omega)]; exact g1 q k y1 y2⟩, Or.inr ⟨fun hk => hlt hk.2.2.2.2.2.1, ft⟩⟩
              · exfalso; omega
            · rw [z5] at h5'
              have n3 : K (t + 2) ≠ 3 := by
                rcases kd2 with ⟨-, kd2, -, kr2, -⟩ | ⟨-, kK, -⟩
                · have ce2 := ck_e kr2
                  have e : t + 1 + 1 = t + 2 := rfl
                  rw [e] at ce2 kd2
                  omega
                · have e : t + 1 + 1 = t + 2 := rfl
                  rw [e] at kK
                  omega
              obtain ⟨c23, e23, c24, e24, -, v24, n24, sl24, SH24, FI24, FL24, FR24, hx24, v25, n25, sl25, SH25, FI25, FL25, FR25, hx25, -, rfl⟩ := h
              cases e23
              rw [h3] at e24
              cases e24
              rw [em] at hx24
              obtain ⟨q9, w9⟩ := s_wL (c := x + 2) (k := m) (x := FL8 110 9) (by omega) ⟨q8, w8⟩
              obtain ⟨F24, L24, e, a24, r24⟩ := s_expect (w := 5) hx24 (by decide) (by decide) q9 w9
              cases e
              rcases r24 with ⟨k1, r24, -⟩ | ⟨-, ft⟩
              · exfalso
                rcases kd2 with ⟨-, kd2, -⟩ | ⟨e, -⟩
                · omega
                · omega
              · have e := s_expect_f hx25 ft.1
                cases e
                exact ⟨_, _, rfl, ⟨fun q k y1 y2 => by rw [a24.1 q k y1]; exact g0 q k y1 y2, fun q k y1 y2 => by rw [a24.2 q k y1, h_up_x (by omega)]; exact g1 q k y1 y2⟩, Or.inr ⟨fun hk => n3 hk.2.2.2.2.1, ft⟩⟩
          · have nk : ¬ r_ok K W m t := by
              intro hk
              rcases s_kd q7 w7 with ⟨k1, -, -, kr1, -⟩ | ⟨-, k1, -⟩
              · have ce1 := ck_e kr1
                have := r8 k1
                have := hk.2.2.1
                have := hk.2.2.2.1
                omega
              · have := hk.2.2.1
                omega
            rcases h with ⟨h5', -⟩ | ⟨-, h⟩
            · exfalso
              rw [ft.2] at h5'
              revert h5'
              decide
            · obtain ⟨c23, e23, c24, e24, -, v24, n24, sl24, SH24, FI24, FL24, FR24, hx24, v25, n25, sl25, SH25, FI25, FL25, FR25, hx25, -, rfl⟩ := h
              cases e23
              rw [h3] at e24
              cases e24
              have e := s_expect_f hx24 ft.1
              cases e
              have e := s_expect_f hx25 ft.1
              cases e
              rw [em]
              exact ⟨_, _, rfl, ⟨g0, fun q k y1 y2 => by rw [h_up_x (by omega)]; exact g1 q k y1 y2⟩, Or.inr ⟨nk, ft⟩⟩
        · rw [z8] at h8
          obtain ⟨v26, n26, sl26, SH26, FI26, FL26, FR26, hr, -, rfl⟩ := h
          obtain ⟨F3, e, a3, ft⟩ := s_refuse hr (by decide) hq hv
          exact ⟨_, _, e, ⟨fun q k y1 _ => a3.1 q k y1, fun _ _ _ _ => rfl⟩, Or.inr ⟨fun hk => by have := hk.2.1; omega, ft⟩⟩
    · exfalso; omega
  · rw [z5] at h5
    obtain ⟨v27, n27, sl27, SH27, FI27, FL27, FR27, hr, -, rfl⟩ := h
    obtain ⟨F3, e, a3, ft⟩ := s_refuse hr (by decide) hq hv
    refine ⟨_, _, e, ⟨fun q k y1 _ => a3.1 q k y1, fun _ _ _ _ => rfl⟩, Or.inr ⟨fun hk => ?_, ft⟩⟩
    have := hk.1
    rcases kd with ⟨-, kd, -, kr, -⟩ | ⟨-, kK, -⟩
    · have ce := ck_e kr
      omega
    · omega
end SR
end
section
/-! THE CLASS'S PARSER: the rows of a variable. -/
/-- the rows that a variable x has, in the cells below n -/
def v_in (F : Nat → Nat → Int32) (L : Nat → Nat → Int64) (R : Nat → Nat → Option Nat) (SH : Nat → Nat × Nat) (n x : Nat) (Q : List r_Q) : Prop := ∀ j q, Q[j]? = some q → (L (x + 1) j).toInt = q.1 ∧ 0 ≤ q.1 ∧ (L (x + 2) j).toInt = q.2.1 ∧ 0 ≤ q.2.1 ∧ ∃ a lo hi, x + 5 ≤ lo ∧ hi ≤ n ∧ R (x + 3) j = some a ∧ m_lc F L R SH lo hi a q.2.2
section VI
variable {F F2 : Nat → Nat → Int32} {L L2 : Nat → Nat → Int64} {R R2 : Nat → Nat → Option Nat} {SH S2 : Nat → Nat × Nat} {n n2 x : Nat} {Q : List r_Q}
theorem v_in_fr (h : v_in F L R SH n x Q) (h0 : ∀ q k, x + 5 ≤ q → q < n → F2 q k = F q k) (h1 : ∀ q k, x + 5 ≤ q → q < n → L2 q k = L q k) (h2 : ∀ q k, x + 5 ≤ q → q < n → R2 q k = R q k) (h3 : ∀ q, x + 5 ≤ q → q < n → S2 q = SH q) (h4 : ∀ j, j < Q.length → L2 (x + 1) j = L (x + 1) j ∧ L2 (x + 2) j = L (x + 2) j ∧ R2 (x + 3) j = R (x + 3) j) (hn : n ≤ n2) : v_in F2 L2 R2 S2 n2 x Q := by
  intro j q hj
  have hlt := (List.getElem?_eq_some_iff.mp hj).1
  obtain ⟨y1, y2, y3, y4, a, lo, hi, y5, y6, y7, y8⟩ := h j q hj
  obtain ⟨z1, z2, z3⟩ := h4 j hlt
  exact ⟨by rw [z1]; exact y1, y2, by rw [z2]; exact y3, y4, a, lo, hi, y5, by omega, by rw [z3]; exact y7, m_lc_fr y8 ⟨fun p k g1 g2 => h0 p k (by omega) (by omega), fun p k g1 g2 => h1 p k (by omega) (by omega), fun p k g1 g2 => h2 p k (by omega) (by omega), fun p g1 g2 => h3 p (by omega) (by omega)⟩⟩
theorem v_in_s {w1 w2 : Int} {c : List Int} {a lo hi : Nat} (h : v_in F L R SH n x Q) (e1 : (L (x + 1) Q.length).toInt = w1) (p1 : 0 ≤ w1) (e2 : (L (x + 2) Q.length).toInt = w2) (p2 : 0 ≤ w2) (g1 : x + 5 ≤ lo) (g2 : hi ≤ n) (e3 : R (x + 3) Q.length = some a) (hm : m_lc F L R SH lo hi a c) : v_in F L R SH n x (Q ++ [(w1, w2, c)]) := by
  intro j q hj
  by_cases hlt : j < Q.length
  · rw [List.getElem?_append_left hlt] at hj
    exact h j q hj
  · rw [List.getElem?_append_right (by omega)] at hj
    have e : j = Q.length := by
      have := (List.getElem?_eq_some_iff.mp hj).1
      rw [List.length_singleton] at this
      omega
    subst e
    rw [Nat.sub_self] at hj
    have hj : some (w1, w2, c) = some q := hj
    cases hj
    exact ⟨e1, p1, e2, p2, a, lo, hi, g1, g2, e3, hm⟩
end VI
theorem rw_fl_c {q : r_Q} {Q : List r_Q} : rw_fl (q :: Q) = lc_by q.1 8 ++ (lc_by q.2.1 8 ++ (lc_by (q.2.2.length : Int) 2 ++ (q.2.2 ++ rw_fl Q))) := by
  unfold rw_fl
  rw [List.map_cons, List.flatten_cons, List.append_assoc, List.append_assoc, List.append_assoc]
theorem rw_b_c {q : r_Q} {Q : List r_Q} : rw_b (q :: Q) = (decide (300 < q.2.2.length) || rw_b Q) := by
  unfold rw_b
  rw [List.any_cons]
section SV
variable {K W : Nat → Int} {M : Nat}
theorem s_location_f {n sl : Nat} {SH : Nat → Nat × Nat} {FI : Nat → Nat → Int32} {FL : Nat → Nat → Int64} {FR : Nat → Nat → Option Nat} {v : Option Nat} {s : hS} (hQ : h_S n SH) (hf : s_ft FI) (h : RX4_readLocation n sl SH FI FL FR v s) : ∃ n2 sl2 SH2 F2 L2 R2, v = some n ∧ s = (n2, sl2, SH2, F2, L2, R2) ∧ n < n2 ∧ b_ct n SH FI FL FR n2 SH2 F2 L2 R2 ∧ s_ft F2 := by
  rcases h with ⟨hc, -⟩ | ⟨-, h⟩
  · exfalso
    rw [hf.2] at hc
    revert hc
    decide
  · obtain ⟨v7, n7, sl7, SH7, FI7, FL7, FR7, hp, rfl, rfl⟩ := h
    obtain ⟨sl2, SH2, F2, L2, R2, rfl, e, b, ft⟩ := s_place_f hQ hf hp
    cases e
    exact ⟨_, _, _, _, _, _, rfl, rfl, by omega, b, ft⟩
/-- one row: its range and its location -/
theorem s_row {n sl : Nat} {SH : Nat → Nat × Nat} {FI : Nat → Nat → Int32} {FL : Nat → Nat → Int64} {FR : Nat → Nat → Option Nat} {x m t : Nat} {Q : List r_Q} {a2 : Int32} {u : Unit} {v : Option Nat} {n3 sl3 n6 sl6 : Nat} {SH3 SH6 : Nat → Nat × Nat} {FI3 FI6 : Nat → Nat → Int32} {FL3 FL6 : Nat → Nat → Int64} {FR3 FR6 : Nat → Nat → Option Nat} (hk : RX4_readRange (some x) a2 n sl SH FI FL FR u (n3, sl3, SH3, FI3, FL3, FR3)) (hm : RX4_readLocation n3 sl3 SH3 FI3 FL3 FR3 v (n6, sl6, SH6, FI6, FL6, FR6)) (ha : a2.toInt = m) (hx : 176 ≤ x) (hQ : h_S n SH) (hn : x + 5 ≤ n) (hq : q_tk K W M FI FL) (hv : s_vw M FI FL t 0) (h2 : FR x 2 = some (x + 1)) (h3 : FR x 3 = some (x + 2)) (hi : v_in FI FL FR SH n x Q) (hl : Q.length = m) : v = some n ∧ n < n6 ∧ FR3 = FR ∧ b_ct x SH FI FL FR n6 SH6 FI6 FL6 FR6 ∧ (∀ q k, x ≤ q → q < n → FR6 q k = FR q k) ∧ (∀ k, k ≠ 5 → FI6 x k = FI x k) ∧ ((∃ t1 c, r_ok K W m t ∧ l_lc K W (t + 4) (some (t1, c)) ∧ t < t1 ∧ s_vw M FI6 FL6 t1 0 ∧ v_in FI6 FL6 (h_up FR6 (x + 3) m (some n)) SH6 n6 x (Q ++ [(W t, W (t + 2), c)]) ∧ (FI6 x 5).toInt = ((m + 1 : Nat) : Int)) ∨ (s_ft FI6 ∧ l_rw K W m t none)) := by
  have h176 := hQ.1
  obtain ⟨F3, L3, e, a3, r3⟩ := s_range hx ha h2 h3 hq hv hk
  cases e
  have bx : b_ct x SH FI FL FR n SH FI3 FL3 FR := ⟨by omega, hQ, fun q k g1 g2 => a3.1 q k (by omega) (by omega), fun q k g1 g2 => a3.2 q k g2 (by omega), fun _ _ _ => rfl, fun h => absurd hv.1 h, fun _ _ => rfl⟩
  rcases r3 with ⟨rk, f5, l1, l2, p1, p2, w3⟩ | ⟨rk, ft⟩
  · have q3 := q_b hq bx hx
    obtain ⟨n2, sl2, SH2, F2, L2, R2, rfl, e, nn, b2, po⟩ := s_location hQ q3 w3 hm
    cases e
    refine ⟨rfl, nn, rfl, b_t0 bx (b_lo b2 (by omega)), fun q k g1 g2 => b2.2.2.2.2.1 q k g2, fun k hk5 => by rw [b2.2.2.1 x k (by omega) (by omega)]; exact a3.1 x k (by omega) (by omega), ?_⟩
    rcases po with ⟨t1, c, lev, ht1, w6, ml⟩ | ⟨lev, ft⟩
    · refine Or.inl ⟨t1, c, rk, lev, by omega, w6, ?_, by rw [b2.2.2.1 x 5 (by omega) (by omega)]; exact f5⟩
      have hi2 : v_in FI6 FL6 (h_up FR6 (x + 3) m (some n)) SH6 n6 x Q := v_in_fr hi (fun q k g1 g2 => by rw [b2.2.2.1 q k g2 (by omega)]; exact a3.1 q k (by omega) (by omega)) (fun q k g1 g2 => by rw [b2.2.2.2.1 q k g2 (by omega)]; exact a3.2 q k (by omega) (by omega)) (fun q k g1 g2 => by rw [h_up_nc (by omega)]; exact b2.2.2.2.2.1 q k g2) (fun q g1 g2 => b2.2.2.2.2.2.2 q g2) (fun j hj => ⟨by rw [b2.2.2.2.1 (x + 1) j (by omega) (by omega)]; exact a3.2 (x + 1) j (by omega) (by omega), by rw [b2.2.2.2.1 (x + 2) j (by omega) (by omega)]; exact a3.2 (x + 2) j (by omega) (by omega), by rw [h_up_ne (by omega)]; exact b2.2.2.2.2.1 (x + 3) j (by omega)⟩) (by omega)
      refine v_in_s (a := n) (lo := n) (hi := n6) hi2 ?_ p1 ?_ p2 (by omega) (Nat.le_refl _) ?_ (m_lc_fr ml ⟨fun q k g1 g2 => rfl, fun q k g1 g2 => rfl, fun q k g1 g2 => by rw [h_up_nc (by omega)], fun q g1 g2 => rfl⟩)
      · rw [hl, b2.2.2.2.1 (x + 1) m (by omega) (by omega)]; exact l1
      · rw [hl, b2.2.2.2.1 (x + 2) m (by omega) (by omega)]; exact l2
      · rw [hl, h_up_eq]
    · exact Or.inr ⟨ft, l_rw_n1 rk lev⟩
  · obtain ⟨n2, sl2, SH2, F2, L2, R2, rfl, e, nn, b2, ft2⟩ := s_location_f hQ ft hm
    cases e
    exact ⟨rfl, nn, rfl, b_t0 bx (b_lo b2 (by omega)), fun q k g1 g2 => b2.2.2.2.2.1 q k g2, fun k hk5 => by rw [b2.2.2.1 x k (by omega) (by omega)]; exact a3.1 x k (by omega) (by omega), Or.inr ⟨ft2, l_rw_n rk⟩⟩
/-- rows behind a fault -/
theorem s_rows_f {n sl : Nat} {SH : Nat → Nat × Nat} {FI : Nat → Nat → Int32} {FL : Nat → Nat → Int64} {FR : Nat → Nat → Option Nat} {x g : Nat} {l2 : Int32} {u : Unit} {s : hS} (hf : s_ft FI) (h : GX4_readRows_18 (some x) g l2 n sl SH FI FL FR u s) : s = (n, sl, SH, FI, FL, FR) := by
  cases g with
  | zero => exact h.elim
  | succ g =>
    rcases h with ⟨-, -, rfl⟩ | ⟨-, h⟩
    · rfl
    · rcases h with ⟨h5, -⟩ | ⟨-, -, rfl⟩
      · exfalso
        rw [hf.2] at h5
        revert h5
        decide
      · rfl
theorem s_rows_G {x : Nat} (hx : 176 ≤ x) : ∀ (g : Nat) (l2 : Int32) (n sl : Nat) (SH : Nat → Nat × Nat) (FI : Nat → Nat → Int32) (FL : Nat → Nat → Int64) (FR : Nat → Nat → Option Nat) (u : Unit) (s : hS) (t m : Nat) (Q : List r_Q), GX4_readRows_18 (some x) g l2 n sl SH FI FL FR u s → h_S n SH → x + 5 ≤ n → q_tk K W M FI FL → s_vw M FI FL t 0 → l2.toInt = m → 1 ≤ m → m ≤ 8 → Q.length = m → FR x 2 = some (x + 1) → FR x 3 = some (x + 2) → FR x 4 = some (x + 3) → v_in FI FL FR SH n x Q → (FI x 5).toInt = m → ∃ n2 sl2 SH2 F2 L2 R2, s = (n2, sl2, SH2, F2, L2, R2) ∧ n ≤ n2 ∧ b_ct x SH FI FL FR n2 SH2 F2 L2 R2 ∧ (∀ k, R2 x k = FR x k) ∧ (∀ k, k ≠ 5 → F2 x k = FI x k) ∧ ((∃ t2 Q2, l_rr K W m t (some (t2, m + Q2.length, rw_fl Q2, rw_b Q2)) ∧ t ≤ t2 ∧ s_vw M F2 L2 t2 0 ∧ v_in F2 L2 R2 SH2 n2 x (Q ++ Q2) ∧ (F2 x 5).toInt = ((m + Q2.length : Nat) : Int)) ∨ (l_rr K W m t none ∧ s_ft F2)) := by
  have z8 : ((8 : Int32)).toInt = 8 := by decide
  have z44 : ((44 : Int32)).toInt = 44 := by decide
  intro g
  induction g with
  | zero => intro l2 n sl SH FI FL FR u s t m Q h; exact h.elim
  | succ g ih =>
    intro l2 n sl SH FI FL FR u s t m Q h hQ hn hq hv hl2 hm1 hm8 hl h2 h3 h4 hi hr
    have h176 := hQ.1
    have kd := s_kd hq hv
    rcases h with ⟨h8, -⟩ | ⟨-, h⟩
    · exfalso
      rw [z8] at h8
      omega
    · rcases h with ⟨h44, h⟩ | ⟨h44, -, rfl⟩
      · rw [z44] at h44
        rcases kd with ⟨ht, kd, -, kr, -⟩ | ⟨-, -, kd⟩
        · have ce := ck_e kr
          have hK : K t = 5 ∧ W t = 44 := by omega
          obtain ⟨v2, n2, sl2, SH2, FI2, FL2, FR2, hk, v3, n3, sl3, SH3, FI3, FL3, FR3, hrg, h⟩ := h
          obtain ⟨F2, L2, e, a2, w2⟩ := s_take hk hq hv ht
          cases e
          have q2 := q_a hq a2
          have b2 : b_ct x SH FI FL FR n SH FI2 FL2 FR := b_lo (b_a hQ a2 (fun h => absurd hv.1 h)) (by omega)
          have hi2 : v_in FI2 FL2 FR SH n x Q := v_in_fr hi (fun q k g1 g2 => a2.1 q k (by omega)) (fun q k g1 g2 => a2.2 q k (by omega)) (fun _ _ _ _ => rfl) (fun _ _ _ => rfl) (fun j hj => ⟨a2.2 (x + 1) j (by omega), a2.2 (x + 2) j (by omega), rfl⟩) (Nat.le_refl _)
          rcases h with ⟨hlt, h⟩ | ⟨hlt, h⟩
          · rw [z8] at hlt
            obtain ⟨c6, e6, v6, n6, sl6, SH6, FI6, FL6, FR6, hm, c8, e8, -, h⟩ := h
            cases e6
            obtain ⟨rfl, nn, eR, b6, r6, f6, po⟩ := s_row hrg hm hl2 hx hQ hn q2 w2 h2 h3 hi2 hl
            rw [eR, h4] at e8
            cases e8
            have em : l2.toInt.toNat = m := by omega
            have h : GX4_readRows_18 (some x) g (l2 + (1 : Int32)) n6 sl6 SH6 FI6 FL6 (h_up FR6 (x + 3) l2.toInt.toNat (some n)) u s := h
            rw [em] at h
            have b7 := b_wR (k := m) (x := some n) (b_t0 b2 b6) (by omega : x ≤ x + 3)
            have rx : ∀ k, h_up FR6 (x + 3) m (some n) x k = FR x k := fun k => by rw [h_up_nc (by omega)]; exact r6 x k (Nat.le_refl _) (by omega)
            have fx : ∀ k, k ≠ 5 → FI6 x k = FI x k := fun k hk5 => (f6 k hk5).trans (a2.1 x k (by omega))
            rcases po with ⟨t1, c, rk, lev, ht1, w6, vi, f5⟩ | ⟨ft, lev⟩
            · have q6 := q_b hq b7 hx
              obtain ⟨n9, sl9, SH9, F9, L9, R9, rfl, nn9, b9, r9, f9, res⟩ := ih _ n6 sl6 SH6 FI6 FL6 _ u s t1 (m + 1) _ h b6.2.1 (by omega) q6 w6 (by rw [i_add hl2 (by decide : ((1 : Int32)).toInt = 1) (by omega) (by omega)]; omega) (by omega) (by omega) (by rw [List.length_append, hl]; rfl) (by rw [rx]; exact h2) (by rw [rx]; exact h3) (by rw [rx]; exact h4) vi f5
              refine ⟨_, _, _, _, _, _, rfl, by omega, b_t0 b7 b9, fun k => (r9 k).trans (rx k), fun k hk5 => (f9 k hk5).trans (fx k hk5), ?_⟩
              rcases res with ⟨t2, Q2, p1, p2, p3, p4, p5⟩ | ⟨p1, ft⟩
              · refine Or.inl ⟨t2, (W (t + 1), W (t + 1 + 2), c) :: Q2, l_rr_c hK ?_, by omega, p3, ?_, by rw [p5, List.length_cons]; omega⟩
                · have e := l_rw_ok rk lev p1
                  rw [rw_fl_c, rw_b_c, List.length_cons, show m + (Q2.length + 1) = m + 1 + Q2.length by omega]
                  exact e
                · rw [List.append_assoc] at p4
                  exact p4
              · exact Or.inr ⟨l_rr_c hK (l_rw_n2 rk lev p1), ft⟩
            · have e := s_rows_f ft h
              exact ⟨_, _, _, _, _, _, e, by omega, b7, rx, fx, Or.inr ⟨l_rr_c hK lev, ft⟩⟩
          · rw [z8] at hlt
            obtain ⟨F3, L3, e, a3, r3⟩ := s_range hx hl2 h2 h3 q2 w2 hrg
            cases e
            have bx : b_ct x SH FI2 FL2 FR n SH FI3 FL3 FR := ⟨by omega, hQ, fun q k g1 g2 => a3.1 q k (by omega) (by omega), fun q k g1 g2 => a3.2 q k g2 (by omega), fun _ _ _ => rfl, fun h => absurd w2.1 h, fun _ _ => rfl⟩
            rcases r3 with ⟨rk, -⟩ | ⟨rk, ft⟩
            · exfalso
              have := rk.2.1
              omega
            · have e := s_rows_f ft h
              exact ⟨_, _, _, _, _, _, e, Nat.le_refl _, b_t0 b2 bx, fun _ => rfl, fun k hk5 => (a3.1 x k (by omega) (by omega)).trans (a2.1 x k (by omega)), Or.inr ⟨l_rr_c hK (l_rw_n rk), ft⟩⟩
        · exfalso; omega
      · rw [z44] at h44
        have n44 : ¬ (K t = 5 ∧ W t = 44) := by
          intro h
          rcases kd with ⟨-, kd, -, kr, -⟩ | ⟨-, kK, -⟩
          · have ce := ck_e kr
            omega
          · omega
        refine ⟨_, _, _, _, _, _, rfl, Nat.le_refl _, b_lo (b_rf hQ) (by omega), fun _ => rfl, fun _ _ => rfl, Or.inl ⟨t, [], ?_, Nat.le_refl _, hv, by rw [List.append_nil]; exact hi, hr⟩⟩
        exact l_rr_e n44
/-- the rows of a variable -/
theorem s_rows {n sl : Nat} {SH : Nat → Nat × Nat} {FI : Nat → Nat → Int32} {FL : Nat → Nat → Int64} {FR : Nat → Nat → Option Nat} {x t : Nat} {u : Unit} {s : hS} (h : RX4_readRows (some x) n sl SH FI FL FR u s) (hx : 176 ≤ x) (hQ : h_S n SH) (hn : x + 5 ≤ n) (hq : q_tk K W M FI FL) (hv : s_vw M FI FL t 0) (h2 : FR x 2 = some (x + 1)) (h3 : FR x 3 = some (x + 2)) (h4 : FR x 4 = some (x + 3)) : ∃ n2 sl2 SH2 F2 L2 R2, s = (n2, sl2, SH2, F2, L2, R2) ∧ n ≤ n2 ∧ b_ct x SH FI FL FR n2 SH2 F2 L2 R2 ∧ (∀ k, R2 x k = FR x k) ∧ (∀ k, k ≠ 5 → F2 x k = FI x k) ∧ ((∃ t2 Q, l_rw K W 0 t (some (t2, Q.length, rw_fl Q, rw_b Q)) ∧ 1 ≤ Q.length ∧ t < t2 ∧ s_vw M F2 L2 t2 0 ∧ v_in F2 L2 R2 SH2 n2 x Q ∧ (F2 x 5).toInt = (Q.length : Int)) ∨ (l_rw K W 0 t none ∧ s_ft F2)) := by
  have h176 := hQ.1
  obtain ⟨v3, n3, sl3, SH3, FI3, FL3, FR3, hrg, c6, e6, v6, n6, sl6, SH6, FI6, FL6, FR6, hm, c8, e8, -, h⟩ := h
  cases e6
  obtain ⟨rfl, nn, eR, b6, r6, f6, po⟩ := s_row (m := 0) (Q := []) hrg hm (by decide) hx hQ hn hq hv h2 h3 (fun j q hj => by simp at hj) rfl
  rw [eR, h4] at e8
  cases e8
  have b7 := b_wR (k := 0) (x := some n) b6 (by omega : x ≤ x + 3)
  have rx : ∀ k, h_up FR6 (x + 3) 0 (some n) x k = FR x k := fun k => by rw [h_up_nc (by omega)]; exact r6 x k (Nat.le_refl _) (by omega)
  obtain ⟨gl, h⟩ := h
  rcases po with ⟨t1, c, rk, lev, ht1, w6, vi, f5⟩ | ⟨ft, lev⟩
  · have q6 := q_b hq b7 hx
    obtain ⟨n9, sl9, SH9, F9, L9, R9, rfl, nn9, b9, r9, f9, res⟩ := s_rows_G hx gl _ n6 sl6 SH6 FI6 FL6 _ u s t1 1 _ h b6.2.1 (by omega) q6 w6 (by decide) (by decide) (by decide) rfl (by rw [rx]; exact h2) (by rw [rx]; exact h3) (by rw [rx]; exact h4) vi f5
    refine ⟨_, _, _, _, _, _, rfl, by omega, b_t0 b7 b9, fun k => (r9 k).trans (rx k), fun k hk5 => (f9 k hk5).trans (f6 k hk5), ?_⟩
    rcases res with ⟨t2, Q2, p1, p2, p3, p4, p5⟩ | ⟨p1, ft⟩
    · refine Or.inl ⟨t2, (W t, W (t + 2), c) :: Q2, ?_, by rw [List.length_cons]; omega, by omega, p3, p4, by rw [p5, List.length_cons]; omega⟩
      have e := l_rw_ok rk lev p1
      rw [rw_fl_c, rw_b_c, List.length_cons, show Q2.length + 1 = 0 + 1 + Q2.length by omega]
      exact e
    · exact Or.inr ⟨l_rw_n2 rk lev p1, ft⟩
  · have e := s_rows_f ft h
    exact ⟨_, _, _, _, _, _, e, by omega, b7, rx, fun k hk5 => f6 k hk5, Or.inr ⟨lev, ft⟩⟩
end SV
end
section
/-! THE CLASS'S CODER: places, locations, variables. -/
section WA
variable {FI F2 : Nat → Nat → Int32} {FL : Nat → Nat → Int64} {FR : Nat → Nat → Option Nat} {SH : Nat → Nat × Nat}
theorem w_pl_ag {c : Nat} {code : List Int} (h : ∀ c k, 176 ≤ c → F2 c k = FI c k) (hw : w_pl FI FL FR SH c code) : w_pl F2 FL FR SH c code := by
  obtain ⟨hc, hw⟩ := hw
  refine ⟨hc, ?_⟩
  rw [h c 0 hc]
  rcases hw with ⟨k, f, hf⟩ | hw | ⟨k, f, a, hf, e⟩ | ⟨k, b, bs, h1, h2, h3, h4, h5, h6⟩ | hw
  · exact Or.inl ⟨k, f, by rw [n_cd_ag h]; exact hf⟩
  · exact Or.inr (Or.inl hw)
  · exact Or.inr (Or.inr (Or.inl ⟨k, f, a, by rw [n_cd_ag h]; exact hf, e⟩))
  · exact Or.inr (Or.inr (Or.inr (Or.inl ⟨k, b, bs, h1, h2, h3, h4, fun i hi => by rw [h b i h2]; exact h5 i hi, h6⟩)))
  · exact Or.inr (Or.inr (Or.inr (Or.inr hw)))
theorem w_lc_ag (h : ∀ c k, 176 ≤ c → F2 c k = FI c k) : ∀ (f : Nat) (o : Option Nat) (code : List Int), w_lc FI FL FR SH f o code → w_lc F2 FL FR SH f o code := by
  intro f
  induction f with
  | zero => intro o code hw; exact hw.elim
  | succ f ih =>
    intro o code hw
    cases o with
    | none => exact hw
    | some c =>
      obtain ⟨a, r, h1, h2, h3, h4⟩ := hw
      refine ⟨a, r, w_pl_ag h h1, ih _ _ h2, ?_, ?_⟩
      · refine ⟨by rw [h c 4 h1.1]; exact h3.1, by rw [h c 4 h1.1]; exact h3.2.1, fun d hd => ?_⟩
        rw [hd] at h2
        rw [h d 4 (w_lc_ge h2)]
        exact h3.2.2 d hd
      · rw [h c 4 h1.1]; exact h4
end WA
theorem lc_u_s {v : Int} (h : v ≤ 127) : lc_u 9 v = [v] := by
  rw [lc_u, if_neg (by omega)]
section CP
variable {n sl : Nat} {SH : Nat → Nat × Nat} {FL : Nat → Nat → Int64} {FR : Nat → Nat → Option Nat}
theorem c_block_G {b : Nat} {bs : List Int} (hQ : h_S n SH) (hb : 176 ≤ b) (hl : (SH b).2 = bs.length) (h64 : bs.length ≤ 64) : ∀ (g : Nat) (l : Int32) (FI : Nat → Nat → Int32) (v : Unit) (s : hS) (i : Nat), GX0_putBlock_21 (some b) g l n sl SH FI FL FR v s → l.toInt = i → i ≤ bs.length → (∀ j, j < bs.length → (FI b j).toInt = bs.getD j 0 ∧ 0 ≤ bs.getD j 0 ∧ bs.getD j 0 ≤ 255) → c_ap n sl SH FI FL FR s (bs.drop i) := by
  have ez : (Int32.ofNat (SH b).2).toInt = (bs.length : Int) := by rw [hl]; exact i_lit (by omega)
  intro g
  induction g with
  | zero => intro l FI v s i h; exact h.elim
  | succ g ih =>
    intro l FI v s i h hi hle hB
    obtain ⟨c1, e1, h⟩ := h
    cases e1
    rcases h with ⟨hlt, h⟩ | ⟨hlt, -, rfl⟩
    · rw [ez] at hlt
      obtain ⟨c3, e3, -, v3, n3, sl3, SH3, FI3, FL3, FR3, hp, hK⟩ := h
      cases e3
      have em : l.toInt.toNat = i := by omega
      rw [em] at hp
      have hv := hB i (by omega)
      have q1 := c_put (b := bs.getD i 0) hQ hp (by rw [hv.1]; omega)
      have q1' := q1
      obtain ⟨F2, e, fr, -⟩ := q1'
      cases e
      have q2 := ih _ FI3 v s (i + 1) hK (by rw [i_add hi (by decide : ((1 : Int32)).toInt = 1) (by omega) (by omega)]; omega) (by omega) (fun j hj => by rw [fr b j (by omega) (by omega)]; exact hB j hj)
      refine c_ap_cg (c_ap_t q1 q2) ?_
      rw [List.singleton_append]
      have hlt2 : i < bs.length := by omega
      rw [List.drop_eq_getElem_cons hlt2, List.getD_eq_getElem?_getD, List.getElem?_eq_getElem hlt2]
      rfl
    · rw [ez] at hlt
      rw [List.drop_eq_nil_of_le (by omega)]
      exact c_ap_0
theorem c_place {FI : Nat → Nat → Int32} {c : Nat} {code : List Int} {v : Unit} {s : hS} (hQ : h_S n SH) (hw : w_pl FI FL FR SH c code) (h : RX0_putPlace (some c) n sl SH FI FL FR v s) : c_ap n sl SH FI FL FR s code := by
  obtain ⟨hc, hw⟩ := hw
  obtain ⟨c1, e1, h⟩ := h
  cases e1
  rcases h with ⟨k1, h⟩ | ⟨k1, h⟩
  · rcases hw with ⟨-, f, hf⟩ | ⟨k, -⟩ | ⟨k, -⟩ | ⟨k, -⟩ | ⟨k, -⟩
    · obtain ⟨c3, e3, v3, n3, sl3, SH3, FI3, FL3, FR3, ⟨g, hm⟩, -, rfl⟩ := h
      cases e3
      exact (c_tree hQ f).1 g _ _ 0 FI _ _ code hm (by decide) (by decide) (by decide) hf
    · exfalso; omega
    · exfalso; omega
    · exfalso; omega
    · exfalso; omega
  · rcases h with ⟨k2, h⟩ | ⟨k2, h⟩
    · rcases hw with ⟨k, -⟩ | ⟨-, w0, w31, rfl⟩ | ⟨k, -⟩ | ⟨k, -⟩ | ⟨k, -⟩
      · exfalso; omega
      · obtain ⟨c6, e6, v6, n6, sl6, SH6, FI6, FL6, FR6, hp, -, rfl⟩ := h
        cases e6
        have e : ((80 : Int32) + (FL c 1).toInt32).toInt = 80 + (FL c 1).toInt := i_add (by decide : ((80 : Int32)).toInt = 80) (l_2i rfl (by omega) (by omega)) (by omega) (by omega)
        exact c_put hQ hp (by rw [e]; omega)
      · exfalso; omega
      · exfalso; omega
      · exfalso; omega
    · rcases h with ⟨k3, h⟩ | ⟨k3, h⟩
      · rcases hw with ⟨k, -⟩ | ⟨k, -⟩ | ⟨-, f, a, hf, rfl⟩ | ⟨k, -⟩ | ⟨k, -⟩
        · exfalso; omega
        · exfalso; omega
        · obtain ⟨c9, e9, v9, n9, sl9, SH9, FI9, FL9, FR9, ⟨g, hm⟩, v10, n10, sl10, SH10, FI10, FL10, FR10, hp, -, rfl⟩ := h
          cases e9
          have q1 := (c_tree hQ f).1 g _ _ 0 FI _ _ a hm (by decide) (by decide) (by decide) hf
          have q1' := q1
          obtain ⟨F2, e, -⟩ := q1'
          cases e
          exact c_ap_t q1 (c_put hQ hp (by decide))
        · exfalso; omega
        · exfalso; omega
      · rcases h with ⟨k4, h⟩ | ⟨k4, h⟩
        · rcases hw with ⟨k, -⟩ | ⟨k, -⟩ | ⟨k, -⟩ | ⟨-, b, bs, hb, b176, hl, h64, hB, rfl⟩ | ⟨k, -⟩
          · exfalso; omega
          · exfalso; omega
          · exfalso; omega
          · obtain ⟨c13, e13, v13, n13, sl13, SH13, FI13, FL13, FR13, hm, -, rfl⟩ := h
            cases e13
            rw [hb] at hm
            rcases hm with ⟨hn, -⟩ | ⟨-, hm⟩
            · cases hn
            · obtain ⟨v1, n1, sl1, SH1, FI1, FL1, FR1, hp, c3, e3, v3, n3, sl3, SH3, FI3, FL3, FR3, hl2, ⟨g, hg⟩⟩ := hm
              cases e3
              have q1 := c_put (b := 158) hQ hp (by decide)
              have q1' := q1
              obtain ⟨F2, e, fr1, -⟩ := q1'
              cases e
              have ez : ((Int32.ofNat (SH b).2).toInt64).toInt = (bs.length : Int) := i_2l (by rw [hl]; exact i_lit (by omega))
              have q2 := c_leb hQ hl2 (by rw [ez]; omega)
              have q2' := q2
              obtain ⟨F3, e, fr2, -⟩ := q2'
              cases e
              rw [ez, lc_u_s (by omega)] at q2
              have q3 := c_block_G hQ b176 hl h64 g _ FI3 _ _ 0 hg (by decide) (by omega) (fun j hj => by rw [fr2 b j (by omega) (by omega), fr1 b j (by omega) (by omega)]; exact hB j hj)
              exact c_ap_cg (c_ap_t q1 (c_ap_t q2 q3)) (by simp)
          · exfalso; omega
        · rcases hw with ⟨k, -⟩ | ⟨k, -⟩ | ⟨k, -⟩ | ⟨k, -⟩ | ⟨-, rfl⟩
          · exfalso; omega
          · exfalso; omega
          · exfalso; omega
          · exfalso; omega
          · obtain ⟨-, rfl⟩ := h
            exact c_ap_0
/-- how far apart -/
theorem i_dst {p q : Nat} (hq : q ≤ 1000000) : (Int32.ofNat (p + q) - Int32.ofNat p).toInt = (q : Int) := by
  have e : Int32.ofNat (p + q) - Int32.ofNat p = Int32.ofNat q := by
    have h := i_dist (p := p) (q := q) (x := Int32.ofNat (p + (q + 2))) (y := Int32.ofNat p) rfl rfl
    rw [← h, show p + (q + 2) = (p + q) + 2 by omega, Int32.ofNat_add (p + q) 2]
    generalize Int32.ofNat (p + q) = a
    generalize Int32.ofNat p = b
    apply Int32.toBitVec_inj.mp
    simp only [Int32.toBitVec_sub, Int32.toBitVec_add]
    show a.toBitVec - b.toBitVec = a.toBitVec + 2#32 - b.toBitVec - 2#32
    generalize a.toBitVec = u
    generalize b.toBitVec = w
    bv_omega
  rw [e]
  exact i_lit (by omega)
theorem c_loc_G {a1 : Option Nat} (hQ : h_S n SH) : ∀ (g : Nat) (l2 : Int32) (o : Option Nat) (FI : Nat → Nat → Int32) (v : Int32) (s : hS) (f : Nat) (code B0 A0 : List Int), GX0_putLocation_7 a1 g l2 o n sl SH FI FL FR v s → w_lc FI FL FR SH f o code → c_vw FI (B0 ++ A0) → l2 = Int32.ofNat B0.length → (A0 ++ code).length ≤ 100000 → c_ap n sl SH FI FL FR s code ∧ (v = if 300 < (A0 ++ code).length then 0 else 1) := by
  have z300 : ((300 : Int32)).toInt = 300 := by decide
  intro g
  induction g with
  | zero => intro l2 o FI v s f code B0 A0 h; exact h.elim
  | succ g ih =>
    intro l2 o FI v s f code B0 A0 h hw hv hl hz
    cases f with
    | zero => exact hw.elim
    | succ f =>
      rcases h with ⟨ho, h⟩ | ⟨ho, h⟩
      · subst ho
        have hw : code = [] := hw
        subst hw
        rw [List.append_nil] at hz
        have e1 : FI 119 1 = Int32.ofNat (B0.length + A0.length) := by rw [hv.1, List.length_append]
        have ed : ((FI 119 1) - l2).toInt = (A0.length : Int) := by rw [e1, hl]; exact i_dst (by omega)
        rw [ed, z300] at h
        rw [List.append_nil]
        rcases h with ⟨h3, rfl, rfl⟩ | ⟨h3, rfl, rfl⟩
        · exact ⟨c_ap_0, by rw [if_pos (by omega)]⟩
        · exact ⟨c_ap_0, by rw [if_neg (by omega)]⟩
      · cases o with
        | none => exact absurd rfl ho
        | some c =>
          obtain ⟨pa, r, w1, w2, ⟨w3, -, -⟩, rfl⟩ := hw
          obtain ⟨v2, n2, sl2, SH2, FI2, FL2, FR2, hp, c4, e4, h⟩ := h
          cases e4
          have hc := w1.1
          have q1 := c_place hQ w1 hp
          have q1' := q1
          obtain ⟨F2, e, fr, av⟩ := q1'
          cases e
          have hv2 := av _ hv
          have w4 : FI2 c 4 = FI c 4 := fr c 4 (by omega) (by omega)
          have zm : ((-1 : Int32)).toInt = -1 := by decide
          rw [w4, zm] at h
          rcases h with ⟨h4, h⟩ | ⟨h4, h⟩
          · rw [if_pos h4, List.nil_append] at hz ⊢
            obtain ⟨c1, e1, h⟩ := h
            cases e1
            obtain ⟨q2, ev⟩ := ih l2 (FR c 5) FI2 v s f r B0 (A0 ++ pa) h (w_lc_ag (c_fr_n fr) f _ _ w2) (by rw [← List.append_assoc]; exact hv2) hl (by rw [List.append_assoc]; exact hz)
            exact ⟨c_ap_t q1 q2, by rw [ev, List.append_assoc]⟩
          · rw [if_neg h4] at hz ⊢
            obtain ⟨v5, n5, sl5, SH5, FI5, FL5, FR5, hp5, c7, e7, v7, n7, sl7, SH7, FI7, FL7, FR7, hp7, h⟩ := h
            cases e7
            have q5 := c_put (b := 147) hQ hp5 (by decide)
            have q5' := q5
            obtain ⟨F5, e, fr5, av5⟩ := q5'
            cases e
            have w5 : FI5 c 4 = FI c 4 := (fr5 c 4 (by omega) (by omega)).trans w4
            rw [w5] at hp7
            have ei : ((FI c 4).toInt64).toInt = (FI c 4).toInt := i_2l rfl
            have q7 := c_leb hQ hp7 (by rw [ei]; omega)
            have q7' := q7
            obtain ⟨F7, e, fr7, av7⟩ := q7'
            cases e
            rw [ei] at q7 av7
            obtain ⟨c1, e1, h⟩ := h
            cases e1
            have q8 := c_ap_t q1 (c_ap_t q5 q7)
            have frt := c_fr_t fr (c_fr_t fr5 fr7)
            have hv7 := av7 _ (av5 _ hv2)
            obtain ⟨q9, ev⟩ := ih l2 (FR c 5) FI7 v s f r B0 (A0 ++ (pa ++ 147 :: lc_u 9 (FI c 4).toInt)) h (w_lc_ag (c_fr_n frt) f _ _ w2) (by
              have e : B0 ++ (A0 ++ (pa ++ 147 :: lc_u 9 (FI c 4).toInt)) = B0 ++ A0 ++ pa ++ [147] ++ lc_u 9 (FI c 4).toInt := by simp
              rw [e]
              exact hv7) hl (by
              have e : A0 ++ (pa ++ 147 :: lc_u 9 (FI c 4).toInt) ++ r = A0 ++ (pa ++ (147 :: lc_u 9 (FI c 4).toInt ++ r)) := by simp
              rw [e]
              exact hz)
            refine ⟨c_ap_cg (c_ap_t q8 q9) (by simp), ?_⟩
            have e : A0 ++ (pa ++ 147 :: lc_u 9 (FI c 4).toInt) ++ r = A0 ++ (pa ++ (147 :: lc_u 9 (FI c 4).toInt ++ r)) := by simp
            rw [ev, e]
theorem c_location {FI : Nat → Nat → Int32} {o : Option Nat} {f : Nat} {code B : List Int} {v : Int32} {s : hS} (hQ : h_S n SH) (h : RX0_putLocation o n sl SH FI FL FR v s) (hw : w_lc FI FL FR SH f o code) (hv : c_vw FI B) (hz : code.length ≤ 100000) : c_ap n sl SH FI FL FR s code ∧ (v = if 300 < code.length then 0 else 1) := by
  obtain ⟨g, h⟩ := h
  have q := c_loc_G hQ g _ o FI v s f code B [] h hw (by rw [List.append_nil]; exact hv) hv.1 (by rw [List.nil_append]; exact hz)
  rw [List.nil_append] at q
  exact q
end CP
end
section
/-! THE CLASS'S CODER: a variable's bytes. -/
/-- a row as it lies in the cells -/
def w_row (F : Nat → Nat → Int32) (L : Nat → Nat → Int64) (R : Nat → Nat → Option Nat) (SH : Nat → Nat × Nat) (x j : Nat) (q : r_Q) : Prop := (L (x + 1) j).toInt = q.1 ∧ 0 ≤ q.1 ∧ (L (x + 2) j).toInt = q.2.1 ∧ 0 ≤ q.2.1 ∧ q.2.2.length ≤ 100000 ∧ ∃ a f, R (x + 3) j = some a ∧ w_lc F L R SH f (some a) q.2.2
/-- what a variable says: its rows, its bytes, whether it is too long -/
def v_bd (F : Nat → Nat → Int32) (L : Nat → Nat → Int64) (R : Nat → Nat → Option Nat) (SH : Nat → Nat × Nat) (x m : Nat) (C : List Int) (b : Bool) : Prop := (m = 0 ∧ (F x 5).toInt = 0 ∧ C.length ≤ 100000 ∧ b = decide (300 < C.length) ∧ ∃ a f, R (x + 3) 0 = some a ∧ w_lc F L R SH f (some a) C) ∨ (∃ Q : List r_Q, m = Q.length ∧ 1 ≤ m ∧ m ≤ 8 ∧ (F x 5).toInt = (m : Int) ∧ C = rw_fl Q ++ (lc_by 0 8 ++ lc_by 0 8) ∧ b = rw_b Q ∧ ∀ j q, Q[j]? = some q → w_row F L R SH x j q)
theorem w_row_ag {F F2 : Nat → Nat → Int32} {L : Nat → Nat → Int64} {R : Nat → Nat → Option Nat} {SH : Nat → Nat × Nat} {x j : Nat} {q : r_Q} (h : ∀ c k, 176 ≤ c → F2 c k = F c k) (hw : w_row F L R SH x j q) : w_row F2 L R SH x j q := by
  obtain ⟨h1, h2, h3, h4, h5, a, f, h6, h7⟩ := hw
  exact ⟨h1, h2, h3, h4, h5, a, f, h6, w_lc_ag h _ _ _ h7⟩
theorem i_and1 {l v : Int32} {p : Prop} [Decidable p] (hl : l = 0 ∨ l = 1) (hv : v = if p then 0 else 1) : (l &&& v) = if p then 0 else l := by
  subst hv
  by_cases hp : p
  · rw [if_pos hp, if_pos hp]
    rcases hl with rfl | rfl <;> decide
  · rw [if_neg hp, if_neg hp]
    rcases hl with rfl | rfl <;> decide
section CC
variable {n sl : Nat} {SH : Nat → Nat × Nat} {FL : Nat → Nat → Int64} {FR : Nat → Nat → Option Nat}
theorem c_rows {x : Nat} (hQ : h_S n SH) (hx : 176 ≤ x) (h2 : FR x 2 = some (x + 1)) (h3 : FR x 3 = some (x + 2)) (h4 : FR x 4 = some (x + 3)) : ∀ (g : Nat) (l2 l3 : Int32) (FI : Nat → Nat → Int32) (v : Option Nat) (s : hS) (B : List Int) (j : Nat) (Q : List r_Q), GX0_code_27 (some x) g l2 l3 n sl SH FI FL FR v s → l3.toInt = j → (FI x 5).toInt = ((j + Q.length : Nat) : Int) → j + Q.length ≤ 8 → (∀ i q, Q[i]? = some q → w_row FI FL FR SH x (j + i) q) → c_vw FI B → (l2 = 0 ∨ l2 = 1) → ∃ F2, c_fr FI F2 ∧ c_vw F2 (B ++ rw_fl Q) ∧ RX0_code_111 (some x) (if rw_b Q = true then 0 else l2) n sl SH F2 FL FR v s := by
  have z8 : ((8 : Int32)).toInt = 8 := by decide
  intro g
  induction g with
  | zero => intro l2 l3 FI v s B j Q h; exact h.elim
  | succ g ih =>
    intro l2 l3 FI v s B j Q h hj hr h8 hw hv hl
    obtain ⟨c1, e1, h⟩ := h
    cases e1
    cases Q with
    | nil =>
      rw [List.length_nil] at hr
      have hX : RX0_code_111 (some x) l2 n sl SH FI FL FR v s := by
        rcases h with ⟨hlt, -⟩ | ⟨-, h⟩
        · exfalso; omega
        · exact h
      exact ⟨FI, fun _ _ _ _ => rfl, by unfold rw_fl; rw [List.map_nil, List.flatten_nil, List.append_nil]; exact hv, hX⟩
    | cons q Q =>
      rw [List.length_cons] at hr h8
      obtain ⟨r1, r2, r3, r4, r5, a, f, r6, r7⟩ := hw 0 q rfl
      have r1 : (FL (x + 1) j).toInt = q.1 := r1
      have r3 : (FL (x + 2) j).toInt = q.2.1 := r3
      have r6 : FR (x + 3) j = some a := r6
      have em : l3.toInt.toNat = j := by omega
      rcases h with ⟨-, h⟩ | ⟨hlt, -⟩
      · rcases h with ⟨-, h⟩ | ⟨hlt, -⟩
        · obtain ⟨c4, e4, c5, e5, -, v5, n5, sl5, SH5, FI5, FL5, FR5, hp5, c7, e7, c8, e8, -, v8, n8, sl8, SH8, FI8, FL8, FR8, hp8, v9, n9, sl9, SH9, FI9, FL9, FR9, hp9, c11, e11, c12, e12, -, v12, n12, sl12, SH12, FI12, FL12, FR12, hp12, v13, n13, sl13, SH13, FI13, FL13, FR13, hp13, hK⟩ := h
          cases e4
          rw [h2] at e5
          cases e5
          rw [em] at hp5
          have q5 := c_num hQ hp5 (by rw [r1]; exact r2) (by decide : ((8 : Int32)).toInt = ((8 : Nat) : Int)) (by decide)
          obtain ⟨F5, e, fr5, av5⟩ := q5
          cases e
          rw [r1] at av5
          cases e7
          rw [h3] at e8
          cases e8
          rw [em] at hp8
          have q8 := c_num hQ hp8 (by rw [r3]; exact r4) (by decide : ((8 : Int32)).toInt = ((8 : Nat) : Int)) (by decide)
          obtain ⟨F8, e, fr8, av8⟩ := q8
          cases e
          rw [r3] at av8
          have q9 := c_num hQ hp9 (by decide) (by decide : ((2 : Int32)).toInt = ((2 : Nat) : Int)) (by decide)
          obtain ⟨F9, e, fr9, av9⟩ := q9
          cases e
          have hv8 := av8 _ (av5 _ hv)
          have hv9 := av9 _ hv8
          have e02 : lc_by ((0 : Int64)).toInt 2 = [0, 0] := by decide
          rw [e02] at hv9
          cases e11
          rw [h4] at e12
          cases e12
          rw [em, r6] at hp12
          have frs := c_fr_t fr5 (c_fr_t fr8 fr9)
          obtain ⟨q12, ev⟩ := c_location hQ hp12 (w_lc_ag (c_fr_n frs) f _ _ r7) hv9 r5
          obtain ⟨F12, e, fr12, av12⟩ := q12
          cases e
          have hv12 := av12 _ hv9
          obtain ⟨F13, e, fr13, av13⟩ := c_patch hQ hp13
          cases e
          have eL : B ++ lc_by q.1 8 ++ lc_by q.2.1 8 ++ [0, 0] ++ q.2.2 = (B ++ lc_by q.1 8 ++ lc_by q.2.1 8) ++ 0 :: 0 :: q.2.2 := by simp
          rw [eL] at hv12
          have e8' : FI8 119 1 = Int32.ofNat (B ++ lc_by q.1 8 ++ lc_by q.2.1 8).length := hv8.1
          have e12' : FI12 119 1 = Int32.ofNat ((B ++ lc_by q.1 8 ++ lc_by q.2.1 8).length + (q.2.2.length + 2)) := by rw [hv12.1, List.length_append, List.length_cons, List.length_cons]
          have hv13 := av13 _ 0 0 _ q.2.2.length hv12 e8' (i_dist e12' e8') (fun hz => by rw [List.length_append, List.length_cons, List.length_cons] at hz; omega)
          have frt := c_fr_t frs (c_fr_t fr12 fr13)
          have eN : B ++ lc_by q.1 8 ++ lc_by q.2.1 8 ++ (lc_by (q.2.2.length : Int) 2 ++ q.2.2) ++ rw_fl Q = B ++ rw_fl (q :: Q) := by rw [rw_fl_c]; simp
          obtain ⟨F14, fr14, hv14, h14⟩ := ih _ _ FI13 v s _ (j + 1) Q hK (by rw [i_add hj (by decide : ((1 : Int32)).toInt = 1) (by omega) (by omega)]; omega) (by rw [frt x 5 (by omega) (by omega), hr]; omega) (by omega) (fun i q' hi => by
            have := hw (i + 1) q' (by rw [List.getElem?_cons_succ]; exact hi)
            rw [show j + (i + 1) = j + 1 + i by omega] at this
            exact w_row_ag (c_fr_n frt) this) hv13 (by
            rw [i_and1 hl ev]
            by_cases hp : 300 < q.2.2.length
            · rw [if_pos hp]; exact Or.inl rfl
            · rw [if_neg hp]; exact hl)
          refine ⟨F14, c_fr_t frt fr14, by rw [← eN]; exact hv14, ?_⟩
          rw [i_and1 hl ev] at h14
          rw [rw_b_c]
          by_cases hp : 300 < q.2.2.length
          · rw [if_pos hp] at h14
            have e : (decide (300 < q.2.2.length) || rw_b Q) = true := by rw [decide_eq_true hp]; rfl
            rw [if_pos e]
            by_cases hb : rw_b Q = true
            · rw [if_pos hb] at h14; exact h14
            · rw [if_neg hb] at h14; exact h14
          · rw [if_neg hp] at h14
            have e : (decide (300 < q.2.2.length) || rw_b Q) = rw_b Q := by rw [decide_eq_false hp]; rfl
            rw [e]
            exact h14
        · exfalso
          rw [z8] at hlt
          omega
      · exfalso; omega
/-- the end: the bytes, or none -/
theorem c_132 {FI : Nat → Nat → Int32} {l2 : Int32} {x : Nat} {C : List Int} {v : Option Nat} {s : hS} (hQ : h_S n SH) (h : RX0_code_132 (some x) l2 n sl SH FI FL FR v s) (hv : c_vw FI C) (hz : C.length ≤ 1000000) : ((l2.toInt = 0 ∨ 600 < C.length) ∧ v = none ∧ s = (n, sl, SH, FI, FL, FR)) ∨ (¬ (l2.toInt = 0 ∨ 600 < C.length) ∧ v = some n ∧ ∃ sl2 SH2 F2 L2 R2, s = (n + 1, sl2, SH2, F2, L2, R2) ∧ (SH2 n).2 = C.length ∧ (∀ i, i < C.length → (F2 n i).toInt = C.getD i 0) ∧ (∀ q, q ≠ n → SH2 q = SH q) ∧ (∀ q, q ≠ n → F2 q = FI q) ∧ (∀ q, q ≠ n → L2 q = FL q) ∧ (∀ q, q ≠ n → R2 q = FR q)) := by
  have h176 := hQ.1
  have es := s120 hQ
  have e6 : (Int32.ofNat (SH 120).2).toInt = 600 := by rw [es]; decide
  have e1 : (FI 119 1).toInt = (C.length : Int) := by rw [hv.1]; exact i_lit (by omega)
  rcases h with ⟨h0, rfl, rfl⟩ | ⟨h0, h⟩
  · exact Or.inl ⟨Or.inl h0, rfl, rfl⟩
  · rcases h with ⟨h6, rfl, rfl⟩ | ⟨h6, h⟩
    · rw [e6, e1] at h6
      exact Or.inl ⟨Or.inr (by omega), rfl, rfl⟩
    · rw [e6, e1] at h6
      obtain ⟨v2, n2, sl2, SH2, FI2, FL2, FR2, hk, rfl, rfl⟩ := h
      obtain ⟨sl3, SH3, F3, L3, R3, rfl, e, k1, k2, k3, k4, k5, k6⟩ := y_copy hk e1 (by rw [es]; show C.length ≤ 600; omega) (by rw [es]; decide) (by omega)
      cases e
      exact Or.inr ⟨by omega, rfl, _, _, _, _, _, rfl, k1, fun i hi => by rw [k2 i hi]; exact hv.2 (by omega) i hi, k3, k4, k5, k6⟩
theorem rw_len {Q : List r_Q} (h : ∀ (j : Nat) (q : r_Q), Q[j]? = some q → q.2.2.length ≤ 100000) (h8 : Q.length ≤ 8) : (rw_fl Q).length ≤ 810000 := by
  have key : ∀ Q : List r_Q, (∀ (j : Nat) (q : r_Q), Q[j]? = some q → q.2.2.length ≤ 100000) → (rw_fl Q).length ≤ 100018 * Q.length := by
    intro Q
    induction Q with
    | nil => intro _; exact Nat.le_refl _
    | cons q Q ih =>
      intro h
      have h1 := h 0 q rfl
      have h2 := ih (fun j q' hj => h (j + 1) q' (by rw [List.getElem?_cons_succ]; exact hj))
      rw [rw_fl_c, List.length_append, List.length_append, List.length_append, List.length_append, lc_by_len, lc_by_len, lc_by_len, List.length_cons]
      omega
  have := key Q h
  omega
theorem c_code {FI : Nat → Nat → Int32} {x m : Nat} {C : List Int} {b : Bool} {v : Option Nat} {s : hS} (hQ : h_S n SH) (hx : 176 ≤ x) (h2 : FR x 2 = some (x + 1)) (h3 : FR x 3 = some (x + 2)) (h4 : FR x 4 = some (x + 3)) (hb : v_bd FI FL FR SH x m C b) (h : RX0_code (some x) n sl SH FI FL FR v s) : ∃ F1, c_fr FI F1 ∧ (((b = true ∨ 600 < C.length) ∧ v = none ∧ s = (n, sl, SH, F1, FL, FR)) ∨ (¬ (b = true ∨ 600 < C.length) ∧ v = some n ∧ ∃ sl2 SH2 F2 L2 R2, s = (n + 1, sl2, SH2, F2, L2, R2) ∧ (SH2 n).2 = C.length ∧ (∀ i, i < C.length → (F2 n i).toInt = C.getD i 0) ∧ (∀ q, q ≠ n → SH2 q = SH q) ∧ (∀ q, q ≠ n → F2 q = F1 q) ∧ (∀ q, q ≠ n → L2 q = FL q) ∧ (∀ q, q ≠ n → R2 q = FR q))) := by
  have fr0 : c_fr FI (h_up FI 119 1 (0 : Int32)) := fun c k g1 _ => by rw [h_up_nc g1]
  have hv0 : c_vw (h_up FI 119 1 (0 : Int32)) [] := ⟨by rw [h_up_eq]; rfl, fun _ i hi => by rw [List.length_nil] at hi; omega⟩
  have e5 : h_up FI 119 1 (0 : Int32) x 5 = FI x 5 := by rw [h_up_nc (by omega)]
  obtain ⟨c2, e2, h⟩ := h
  cases e2
  rcases hb with ⟨hm, r0, hz, hb, a, f, ra, hw⟩ | ⟨Q, hm, m1, m8, r0, hC, hb, hw⟩
  · rcases h with ⟨-, h⟩ | ⟨hn, -⟩
    · obtain ⟨c4, e4, c5, e5', -, v5, n5, sl5, SH5, FI5, FL5, FR5, hp, g, h⟩ := h
      cases e4
      rw [h4] at e5'
      cases e5'
      rw [ra] at hp
      obtain ⟨q5, ev⟩ := c_location hQ hp (w_lc_ag (c_fr_n fr0) f _ _ hw) hv0 hz
      obtain ⟨F5, e, fr5, av5⟩ := q5
      cases e
      have hv5 := av5 _ hv0
      rw [List.nil_append] at hv5
      have l01 : v5 = 0 ∨ v5 = 1 := by
        rw [ev]
        by_cases hp : 300 < C.length
        · rw [if_pos hp]; exact Or.inl rfl
        · rw [if_neg hp]; exact Or.inr rfl
      obtain ⟨F6, fr6, hv6, h6⟩ := c_rows hQ hx h2 h3 h4 g v5 _ FI5 v s C 0 [] h (by decide) (by rw [fr5 x 5 (by omega) (by omega), e5, r0]; rfl) (by decide) (fun i q hi => by simp at hi) hv5 l01
      have ef : rw_fl [] = [] := rfl
      have eb : rw_b [] = false := rfl
      rw [ef, List.append_nil] at hv6
      rw [eb, if_neg (by decide)] at h6
      have frt := c_fr_t fr0 (c_fr_t fr5 fr6)
      obtain ⟨c1, e1, h6⟩ := h6
      cases e1
      rcases h6 with ⟨hp, -⟩ | ⟨-, h6⟩
      · exfalso
        rw [frt x 5 (by omega) (by omega), r0] at hp
        omega
      · have z := c_132 hQ h6 hv6 (by omega)
        have eq : v5.toInt = 0 ↔ b = true := by
          rw [ev, hb, decide_eq_true_eq]
          by_cases hp : 300 < C.length
          · rw [if_pos hp]; exact ⟨fun _ => hp, fun _ => by decide⟩
          · rw [if_neg hp]; exact ⟨fun h => absurd h (by decide), fun h => absurd h hp⟩
        rw [eq] at z
        exact ⟨F6, frt, z⟩
    · exfalso
      rw [e5] at hn
      exact hn r0
  · rcases h with ⟨hn, -⟩ | ⟨-, h⟩
    · exfalso
      rw [e5] at hn
      omega
    · obtain ⟨g, h⟩ := h
      obtain ⟨F6, fr6, hv6, h6⟩ := c_rows hQ hx h2 h3 h4 g _ _ _ v s [] 0 Q h (by decide) (by rw [e5, r0, hm, Nat.zero_add]) (by omega) (fun i q hi => by rw [Nat.zero_add]; exact w_row_ag (c_fr_n fr0) (hw i q hi)) hv0 (Or.inr rfl)
      rw [List.nil_append] at hv6
      have frt := c_fr_t fr0 fr6
      have lq := rw_len (fun j q hj => (hw j q hj).2.2.2.2.1) (by omega)
      obtain ⟨c1, e1, h6⟩ := h6
      cases e1
      rcases h6 with ⟨-, h6⟩ | ⟨hp, -⟩
      · obtain ⟨v2, n2, sl2, SH2, FI2, FL2, FR2, hp2, v3, n3, sl3, SH3, FI3, FL3, FR3, hp3, h6⟩ := h6
        have q2 := c_num hQ hp2 (by decide) (by decide : ((8 : Int32)).toInt = ((8 : Nat) : Int)) (by decide)
        obtain ⟨F2, e, fr2, av2⟩ := q2
        cases e
        have q3 := c_num hQ hp3 (by decide) (by decide : ((8 : Int32)).toInt = ((8 : Nat) : Int)) (by decide)
        obtain ⟨F3, e, fr3, av3⟩ := q3
        cases e
        have z0 : ((0 : Int64)).toInt = 0 := by decide
        have hv3 := av3 _ (av2 _ hv6)
        rw [z0, List.append_assoc, ← hC] at hv3
        have z := c_132 hQ h6 hv3 (by rw [hC, List.length_append, List.length_append, lc_by_len]; omega)
        have eq : (if rw_b Q = true then (0 : Int32) else 1).toInt = 0 ↔ b = true := by
          rw [hb]
          by_cases hp : rw_b Q = true
          · rw [if_pos hp]; exact ⟨fun _ => hp, fun _ => by decide⟩
          · rw [if_neg hp]; exact ⟨fun h => absurd h (by decide), fun h => absurd h hp⟩
        rw [eq] at z
        exact ⟨FI3, c_fr_t frt (c_fr_t fr2 fr3), z⟩
      · exfalso
        rw [frt x 5 (by omega) (by omega), r0] at hp
        omega
end CC
end
section
/-! THE CLASS'S PARSER: names. -/
/-- the name in cell c has the number w -/
def nm_ok (F : Nat → Nat → Int32) (SH : Nat → Nat × Nat) (c : Nat) (w : Int) : Prop := ∃ D : List Int, (SH c).2 = D.length ∧ D.length ≤ 8 ∧ (∀ d, d ∈ D → 1 ≤ d ∧ d ≤ 36) ∧ w = t_tv D ∧ ∀ j, j < D.length → t_al (F c j).toInt = true ∧ D[D.length - 1 - j]? = some (t_cd (F c j).toInt)
theorem nm_fr {F F2 : Nat → Nat → Int32} {SH S2 : Nat → Nat × Nat} {c : Nat} {w : Int} (h : nm_ok F SH c w) (h1 : F2 c = F c) (h2 : S2 c = SH c) : nm_ok F2 S2 c w := by
  unfold nm_ok
  rw [h1, h2]
  exact h
theorem nm_same {F : Nat → Nat → Int32} {SH : Nat → Nat × Nat} {c1 c2 : Nat} {w1 w2 : Int} (h1 : nm_ok F SH c1 w1) (h2 : nm_ok F SH c2 w2) : ((SH c1).2 = (SH c2).2 ∧ ∀ j, j < (SH c1).2 → F c1 j = F c2 j) ↔ w1 = w2 := by
  obtain ⟨D1, a1, -, a3, a4, a5⟩ := h1
  obtain ⟨D2, b1, -, b3, b4, b5⟩ := h2
  constructor
  · rintro ⟨e, he⟩
    rw [a4, b4]
    have hl : D1.length = D2.length := by omega
    have hD : D1 = D2 := by
      apply List.ext_getElem?
      intro q
      by_cases hq : q < D1.length
      · have x1 := (a5 (D1.length - 1 - q) (by omega)).2
        have x2 := (b5 (D1.length - 1 - q) (by omega)).2
        rw [show D1.length - 1 - (D1.length - 1 - q) = q by omega] at x1
        rw [show D2.length - 1 - (D1.length - 1 - q) = q by omega] at x2
        rw [x1, x2, he _ (by omega)]
      · rw [List.getElem?_eq_none (by omega), List.getElem?_eq_none (by omega)]
    rw [hD]
  · intro e
    have hD : D1 = D2 := t_tv_inj D1 D2 a3 b3 (by rw [← a4, ← b4, e])
    subst hD
    refine ⟨by omega, fun j hj => ?_⟩
    have x1 := a5 j (by omega)
    have x2 := b5 j (by omega)
    have e2 : t_cd (F c1 j).toInt = t_cd (F c2 j).toInt := Option.some.inj (x1.2.symm.trans x2.2)
    exact i_eqv (t_cd_inj x1.1 x2.1 e2)
/-- the text, and where its names lie -/
def q_nm (K W : Nat → Int) (M : Nat) (X : Nat → Int) (N : Nat) (FI : Nat → Nat → Int32) (FR : Nat → Nat → Option Nat) : Prop := FR 111 5 = some 19 ∧ N ≤ 1000 ∧ (∀ i, i < N → (FI 19 i).toInt = X i) ∧ ∀ i, i < M → K i = 1 → ∃ p m : Nat, (FI 114 i).toInt = p ∧ (FI 115 i).toInt = ((p + m : Nat) : Int) ∧ 1 ≤ m ∧ m ≤ 8 ∧ p + m ≤ N ∧ (∀ j, j < m → t_al (t_sg X N (p + j)) = true) ∧ W i = t_wv X N p m
section YN
variable {K W : Nat → Int} {M : Nat} {X : Nat → Int} {N : Nat} {n sl : Nat} {SH : Nat → Nat × Nat} {FI : Nat → Nat → Int32} {FL : Nat → Nat → Int64} {FR : Nat → Nat → Option Nat} {s : hS}
theorem nm_fr2 {F2 : Nat → Nat → Int32} {R2 : Nat → Nat → Option Nat} (h : q_nm K W M X N FI FR) (h1 : F2 19 = FI 19) (h2 : F2 114 = FI 114) (h3 : F2 115 = FI 115) (h4 : R2 111 5 = FR 111 5) : q_nm K W M X N F2 R2 := by
  unfold q_nm
  rw [h1, h2, h3, h4]
  exact h
theorem nm_b {n2 : Nat} {SH2 : Nat → Nat × Nat} {F2 : Nat → Nat → Int32} {L2 : Nat → Nat → Int64} {R2 : Nat → Nat → Option Nat} {lo : Nat} (h : q_nm K W M X N FI FR) (hb : b_ct lo SH FI FL FR n2 SH2 F2 L2 R2) (h0 : 176 ≤ lo) : q_nm K W M X N F2 R2 :=
  nm_fr2 h (by funext k; exact hb.2.2.1 19 k (by omega) (by omega)) (by funext k; exact hb.2.2.1 114 k (by omega) (by omega)) (by funext k; exact hb.2.2.1 115 k (by omega) (by omega)) (hb.2.2.2.2.1 111 5 (by omega))
/-- new cells, nothing else -/
def y_nw (n : Nat) (SH : Nat → Nat × Nat) (FI : Nat → Nat → Int32) (FL : Nat → Nat → Int64) (FR : Nat → Nat → Option Nat) (SH2 : Nat → Nat × Nat) (F2 : Nat → Nat → Int32) (L2 : Nat → Nat → Int64) (R2 : Nat → Nat → Option Nat) : Prop := (∀ q, q ≠ n → SH2 q = SH q) ∧ (∀ q, q ≠ n → F2 q = FI q) ∧ (∀ q, q ≠ n → L2 q = FL q) ∧ (∀ q, q ≠ n → R2 q = FR q)
theorem y_na {k z : Nat} {u : Unit} {n1 sl1 : Nat} {SH1 : Nat → Nat × Nat} {FI1 : Nat → Nat → Int32} {FL1 : Nat → Nat → Int64} {FR1 : Nat → Nat → Option Nat} (h : P_na k z n sl SH FI FL FR u (n1, sl1, SH1, FI1, FL1, FR1)) : n1 = n + 1 ∧ y_nw n SH FI FL FR SH1 FI1 FL1 FR1 ∧ SH1 n = (100 + k, z) ∧ (∀ i, FI1 n i = 0) ∧ (∀ i, FR1 n i = none) := by
  have h : (n1, sl1, SH1, FI1, FL1, FR1) = (n + 1, sl + z, va_up SH n (100 + k, z), va_up FI n (fun _ => 0), va_up FL n (fun _ => 0), va_up FR n (fun _ => none)) := h
  cases h
  exact ⟨rfl, ⟨fun q hq => va_o hq, fun q hq => va_o hq, fun q hq => va_o hq, fun q hq => va_o hq⟩, va_s, fun i => by rw [va_s], fun i => by rw [va_s]⟩
theorem y_rgi {c : Nat} {a2 a3 : Int32} {v : Option Nat} (h : RJ7_copyOfRangeInt_feecc (some c) a2 a3 n sl SH FI FL FR v s) : ∃ sl2 SH2 F2 L2 R2, v = some n ∧ s = (n + 1, sl2, SH2, F2, L2, R2) ∧ y_nw n SH FI FL FR SH2 F2 L2 R2 ∧ ∀ p m : Nat, a2.toInt = p → a3.toInt = ((p + m : Nat) : Int) → p + m ≤ (SH c).2 → (SH c).2 ≤ 100000 → c < n → (SH2 n).2 = m ∧ ∀ i, i < m → F2 n i = FI c (p + i) := by
  obtain ⟨v0, n0, sl0, SH0, FI0, FL0, FR0, h0, v1, n1, sl1, SH1, FI1, FL1, FR1, h1, c3, e3, c6, e6, c7, e7, v4, n4, sl4, SH4, FI4, FL4, FR4, h4, rfl, rfl⟩ := h
  rcases h0 with ⟨-, h0⟩ | ⟨-, -, h0⟩
  · exact h0.elim
  · cases h0
    cases e3
    cases e6
    cases e7
    obtain ⟨rfl, w, es, -, -⟩ := y_na h1
    obtain ⟨-, -, -, -, -, e⟩ := h4
    cases e
    refine ⟨_, _, _, _, _, rfl, rfl, ⟨w.1, fun q hq => by rw [va_o hq]; exact w.2.1 q hq, w.2.2.1, w.2.2.2⟩, fun p m hp hm hle hz hc => ?_⟩
    have e1 : (a3 - a2).toInt = (m : Int) := by rw [i_sub hm hp (by omega) (by omega)]; omega
    have e2 : SH1 c = SH c := w.1 c (by omega)
    have e3 : ((Int32.ofNat (SH1 c).2) - a2).toInt = ((SH c).2 : Int) - p := by rw [e2, i_sub (i_lit (by omega)) hp (by omega) (by omega)]
    have em : (fJ9_min_7cf53 ((Int32.ofNat (SH1 c).2) - a2) (a3 - a2) SH1 FI1 FL1 FR1).toInt = (m : Int) := by
      unfold fJ9_min_7cf53
      by_cases hlt : (a3 - a2).toInt < ((Int32.ofNat (SH1 c).2) - a2).toInt
      · rw [if_pos hlt]; exact e1
      · rw [if_neg hlt, e3]
        rw [e1, e3] at hlt
        omega
    refine ⟨by rw [es]; show (a3 - a2).toInt.toNat = m; omega, fun i hi => ?_⟩
    rw [va_s]
    unfold va_cpy
    have z0 : ((0 : Int32)).toInt.toNat = 0 := by decide
    rw [em, z0, if_pos (by omega), w.2.1 c (by omega)]
    congr 1
    omega
theorem y_rg {c : Nat} {a2 a3 : Int32} {v : Option Nat} (h : RJ7_copyOfRange_feecc (some c) a2 a3 n sl SH FI FL FR v s) : ∃ sl2 SH2 F2 L2 R2, v = some n ∧ s = (n + 1, sl2, SH2, F2, L2, R2) ∧ y_nw n SH FI FL FR SH2 F2 L2 R2 ∧ ∀ p m : Nat, a2.toInt = p → a3.toInt = ((p + m : Nat) : Int) → p + m ≤ (SH c).2 → (SH c).2 ≤ 100000 → c < n → (SH2 n).2 = m ∧ ∀ i, i < m → F2 n i = FI c (p + i) := by
  rcases h with ⟨h0, h⟩ | ⟨h0, h⟩
  · obtain ⟨c2, e2, h⟩ := h
    cases e2
    rcases h with ⟨h1, h⟩ | ⟨h1, h⟩
    · obtain ⟨c5, e5, v3, n3, sl3, SH3, FI3, FL3, FR3, hk, rfl, rfl⟩ := h
      cases e5
      obtain ⟨-, e⟩ := hk
      cases e
      refine ⟨_, _, _, _, _, rfl, rfl, ⟨fun q hq => va_o hq, fun q hq => va_o hq, fun q hq => va_o hq, fun q hq => va_o hq⟩, fun p m hp hm hle hz hc => ?_⟩
      have ez : (Int32.ofNat (SH c).2).toInt = ((SH c).2 : Int) := i_lit (by omega)
      rw [ez] at h1
      refine ⟨by rw [va_s]; omega, fun i hi => ?_⟩
      rw [va_s]
      congr 1
      omega
    · obtain ⟨v5, n5, sl5, SH5, FI5, FL5, FR5, hk, rfl, rfl⟩ := h
      exact y_rgi hk
  · obtain ⟨v5, n5, sl5, SH5, FI5, FL5, FR5, hk, rfl, rfl⟩ := h
    exact y_rgi hk
theorem y_letters {a : Int32} {t : Nat} {v : Option Nat} (hQ : h_S n SH) (hm : q_nm K W M X N FI FR) (ha : a.toInt = t) (h : RX7_letters a n sl SH FI FL FR v s) : ∃ sl2 SH2 F2 L2 R2, v = some n ∧ s = (n + 1, sl2, SH2, F2, L2, R2) ∧ y_nw n SH FI FL FR SH2 F2 L2 R2 ∧ (t < M → K t = 1 → (t : Int) < (FI 111 4).toInt → nm_ok F2 SH2 n (W t)) := by
  have h176 := hQ.1
  have es : SH 19 = (100, 1000) := hQ.2 19 (by decide)
  have et : a.toInt.toNat = t := by omega
  obtain ⟨n1, n2, n3, n4⟩ := hm
  rcases h with ⟨h0, h⟩ | ⟨h0, h⟩
  · exfalso; omega
  · rcases h with ⟨h1, h⟩ | ⟨h1, h⟩
    · obtain ⟨-, c4, e4, h⟩ := h
      rw [n1] at e4
      cases e4
      rw [et] at h
      have ez : (Int32.ofNat (SH 19).2).toInt = 1000 := by rw [es]; decide
      rw [ez] at h
      rcases h with ⟨h2, h⟩ | ⟨h2, h⟩
      · obtain ⟨v5, n5, sl5, SH5, FI5, FL5, FR5, hk, rfl, rfl⟩ := h
        obtain ⟨rfl, w, -⟩ := y_na hk
        refine ⟨_, _, _, _, _, rfl, rfl, w, fun ht hK _ => ?_⟩
        obtain ⟨p, m, p1, p2, p3, p4, p5, -⟩ := n4 t ht hK
        exfalso; omega
      · obtain ⟨-, -, h⟩ := h
        rcases h with ⟨h3, h⟩ | ⟨h3, h⟩
        · obtain ⟨v5, n5, sl5, SH5, FI5, FL5, FR5, hk, rfl, rfl⟩ := h
          obtain ⟨rfl, w, -⟩ := y_na hk
          refine ⟨_, _, _, _, _, rfl, rfl, w, fun ht hK _ => ?_⟩
          obtain ⟨p, m, p1, p2, p3, p4, p5, -⟩ := n4 t ht hK
          exfalso; omega
        · obtain ⟨-, -, v8, n8, sl8, SH8, FI8, FL8, FR8, hk, rfl, rfl⟩ := h
          rw [n1] at hk
          obtain ⟨sl2, SH2, F2, L2, R2, rfl, e, w, key⟩ := y_rg hk
          cases e
          refine ⟨_, _, _, _, _, rfl, rfl, w, fun ht hK _ => ?_⟩
          obtain ⟨p, m, p1, p2, p3, p4, p5, p6, p7⟩ := n4 t ht hK
          obtain ⟨k1, k2⟩ := key p m p1 p2 (by rw [es]; show p + m ≤ 1000; omega) (by rw [es]; decide) (by omega)
          have hl : ∀ j, j < m → (FI8 n j).toInt = t_sg X N (p + j) := fun j hj => by
            rw [k2 j hj, n3 (p + j) (by omega)]
            unfold t_sg
            rw [if_pos (by omega)]
          refine ⟨t_dl X N p m, by rw [t_dl_len]; exact k1, by rw [t_dl_len]; exact p4, fun d hd => ?_, by rw [p7]; exact t_wv_tv m, fun j hj => ?_⟩
          · obtain ⟨q, hq, he⟩ := List.mem_iff_getElem.mp hd
            rw [t_dl_len] at hq
            have e := t_dl_get (X := X) (N := N) (i := p) m q hq
            rw [List.getElem?_eq_getElem (by rw [t_dl_len]; exact hq), he] at e
            rw [Option.some.inj e]
            exact t_cd_rg (p6 _ (by omega))
          · rw [t_dl_len] at hj ⊢
            rw [hl j hj]
            refine ⟨p6 j hj, ?_⟩
            rw [t_dl_get m (m - 1 - j) (by omega), show m - 1 - (m - 1 - j) = j by omega]
    · obtain ⟨v9, n9, sl9, SH9, FI9, FL9, FR9, hk, rfl, rfl⟩ := h
      obtain ⟨rfl, w, -⟩ := y_na hk
      refine ⟨_, _, _, _, _, rfl, rfl, w, fun ht hK hc => ?_⟩
      exfalso; omega
theorem y_same_G {c1 c2 z : Nat} (h1 : (SH c1).2 = z) (hz : z ≤ 100000) : ∀ (g : Nat) (l : Int32) (v : Int32) (s : hS) (j : Nat), GX4_areSame_11 (some c1) (some c2) g l n sl SH FI FL FR v s → l.toInt = j → j ≤ z → s = (n, sl, SH, FI, FL, FR) ∧ (v.toInt = 0 ↔ ¬ ∀ i, j ≤ i → i < z → FI c1 i = FI c2 i) := by
  have ez : (Int32.ofNat (SH c1).2).toInt = (z : Int) := by rw [h1]; exact i_lit (by omega)
  intro g
  induction g with
  | zero => intro l v s j h; exact h.elim
  | succ g ih =>
    intro l v s j h hj hle
    obtain ⟨c, e, h⟩ := h
    cases e
    rcases h with ⟨hlt, h⟩ | ⟨hlt, rfl, rfl⟩
    · rw [ez] at hlt
      obtain ⟨c3, e3, -, c4, e4, -, h⟩ := h
      cases e3
      cases e4
      have em : l.toInt.toNat = j := by omega
      rw [em] at h
      rcases h with ⟨he, h⟩ | ⟨he, rfl, rfl⟩
      · obtain ⟨r1, r2⟩ := ih _ v s (j + 1) h (by rw [i_add hj (by decide : ((1 : Int32)).toInt = 1) (by omega) (by omega)]; omega) (by omega)
        refine ⟨r1, r2.trans (not_congr ⟨fun hh i g1 g2 => ?_, fun hh i g1 g2 => hh i (by omega) g2⟩)⟩
        by_cases e : i = j
        · subst e; exact i_eqv he
        · exact hh i (by omega) g2
      · exact ⟨rfl, fun _ hh => he (by rw [hh j (Nat.le_refl _) (by omega)]), fun _ => by decide⟩
    · rw [ez] at hlt
      refine ⟨rfl, fun h0 => absurd h0 (by decide), fun hh => ?_⟩
      exact absurd (fun i g1 g2 => by omega) hh
theorem y_same {c1 c2 : Nat} {v : Int32} (h : RX4_areSame (some c1) (some c2) n sl SH FI FL FR v s) (h1 : (SH c1).2 ≤ 100000) (h2 : (SH c2).2 ≤ 100000) : s = (n, sl, SH, FI, FL, FR) ∧ (v.toInt = 0 ↔ ¬ ((SH c1).2 = (SH c2).2 ∧ ∀ j, j < (SH c1).2 → FI c1 j = FI c2 j)) := by
  obtain ⟨c, e, c', e', h⟩ := h
  cases e
  cases e'
  have ez1 : (Int32.ofNat (SH c1).2).toInt = ((SH c1).2 : Int) := i_lit (by omega)
  have ez2 : (Int32.ofNat (SH c2).2).toInt = ((SH c2).2 : Int) := i_lit (by omega)
  rw [ez1, ez2] at h
  rcases h with ⟨he, g, h⟩ | ⟨he, rfl, rfl⟩
  · obtain ⟨r1, r2⟩ := y_same_G rfl h1 g _ v s 0 h (by decide) (Nat.zero_le _)
    exact ⟨r1, r2.trans (not_congr ⟨fun hh => ⟨by omega, fun j hj => hh j (Nat.zero_le _) hj⟩, fun hh i _ g2 => hh.2 i g2⟩)⟩
  · exact ⟨rfl, fun _ hh => he (by rw [hh.1]), fun _ => by decide⟩
/-- the names that stand -/
def d_ns (FI : Nat → Nat → Int32) (FR : Nat → Nat → Option Nat) (SH : Nat → Nat × Nat) (vc : Nat) (V : List lp_V) : Prop := ∀ (i : Nat) (v : lp_V), V[i]? = some v → ∃ x c, FR vc i = some x ∧ FR x 0 = some c ∧ nm_ok FI SH c v.1
theorem nm_sz {c : Nat} {w : Int} (h : nm_ok FI SH c w) : (SH c).2 ≤ 100000 := by
  obtain ⟨D, h1, h2, -⟩ := h
  omega
theorem y_known_G {vc nm : Nat} {w : Int} {V : List lp_V} (hv : FR 110 2 = some vc) (hs : (SH vc).2 = 12) (hc : (FI 110 3).toInt = V.length) (h12 : V.length ≤ 12) (hn : nm_ok FI SH nm w) (hN : d_ns FI FR SH vc V) : ∀ (g : Nat) (l : Int32) (v : Int32) (s : hS) (j : Nat), GX4_isKnown_2 (some nm) g l n sl SH FI FL FR v s → l.toInt = j → j ≤ V.length → s = (n, sl, SH, FI, FL, FR) ∧ (v.toInt = 0 ↔ ∀ (i : Nat) (x : lp_V), j ≤ i → V[i]? = some x → x.1 ≠ w) := by
  have ez : (Int32.ofNat (SH vc).2).toInt = 12 := by rw [hs]; decide
  intro g
  induction g with
  | zero => intro l v s j h; exact h.elim
  | succ g ih =>
    intro l v s j h hj hle
    rcases h with ⟨hlt, h⟩ | ⟨hlt, rfl, rfl⟩
    · have hjl : j < V.length := by omega
      obtain ⟨c2, e2, h⟩ := h
      rw [hv] at e2
      cases e2
      rw [ez] at h
      rcases h with ⟨-, h⟩ | ⟨h12', -⟩
      · obtain ⟨c4, e4, -, c5, e5, v5, n5, sl5, SH5, FI5, FL5, FR5, hk, h⟩ := h
        rw [hv] at e4
        cases e4
        have em : l.toInt.toNat = j := by omega
        rw [em] at e5
        obtain ⟨x, c, y1, y2, y3⟩ := hN j V[j] (List.getElem?_eq_getElem hjl)
        rw [y1] at e5
        cases e5
        rw [y2] at hk
        obtain ⟨e, r⟩ := y_same hk (nm_sz y3) (nm_sz hn)
        cases e
        rw [nm_same y3 hn] at r
        rcases h with ⟨h0, h⟩ | ⟨h0, rfl, rfl⟩
        · obtain ⟨r1, r2⟩ := ih _ v s (j + 1) h (by rw [i_add hj (by decide : ((1 : Int32)).toInt = 1) (by omega) (by omega)]; omega) (by omega)
          refine ⟨r1, r2.trans ⟨fun hh i x g1 g2 => ?_, fun hh i x g1 g2 => hh i x (by omega) g2⟩⟩
          by_cases e : i = j
          · subst e
            rw [List.getElem?_eq_getElem hjl] at g2
            cases g2
            exact r.mp h0
          · exact hh i x (by omega) g2
        · refine ⟨rfl, fun h1 => absurd h1 (by decide), fun hh => ?_⟩
          exact absurd (r.mpr (hh j V[j] (Nat.le_refl _) (List.getElem?_eq_getElem hjl))) h0
      · exfalso; omega
    · refine ⟨rfl, fun _ i x g1 g2 => ?_, fun _ => by decide⟩
      have := (List.getElem?_eq_some_iff.mp g2).1
      exfalso; omega
theorem y_known {vc nm : Nat} {w : Int} {V : List lp_V} {v : Int32} (hv : FR 110 2 = some vc) (hs : (SH vc).2 = 12) (hc : (FI 110 3).toInt = V.length) (h12 : V.length ≤ 12) (hn : nm_ok FI SH nm w) (hN : d_ns FI FR SH vc V) (h : RX4_isKnown (some nm) n sl SH FI FL FR v s) : s = (n, sl, SH, FI, FL, FR) ∧ (v.toInt = 0 ↔ ∀ x, x ∈ V → x.1 ≠ w) := by
  obtain ⟨g, h⟩ := h
  obtain ⟨r1, r2⟩ := y_known_G hv hs hc h12 hn hN g _ v s 0 h (by decide) (Nat.zero_le _)
  refine ⟨r1, r2.trans ⟨fun hh x hx => ?_, fun hh i x _ g2 => hh x (List.mem_of_getElem? g2)⟩⟩
  obtain ⟨i, hi⟩ := List.mem_iff_getElem?.mp hx
  exact hh i x (Nat.zero_le _) hi
end YN
end
section
theorem uf_RX0_113 : x_uF RX0 113 3 3 := x_uF_tb (c0 := "LocationDesk$Node") (n0 := "first") lF_RX0 rfl (by decide +kernel)
theorem un_RX0_113 : x_nS RX0 113 := x_nS_tb (c0 := "LocationDesk$Node") (n0 := "first") lF_RX0 rfl (by decide +kernel)
theorem uf_RX0_124 : x_uF RX0 124 3 5 := x_uF_tb (c0 := "LocationDesk$Node") (n0 := "no") lF_RX0 rfl (by decide +kernel)
theorem un_RX0_124 : x_nS RX0 124 := x_nS_tb (c0 := "LocationDesk$Node") (n0 := "no") lF_RX0 rfl (by decide +kernel)
theorem uf_RX0_127 : x_uF RX0 127 3 4 := x_uF_tb (c0 := "LocationDesk$Node") (n0 := "yes") lF_RX0 rfl (by decide +kernel)
theorem un_RX0_127 : x_nS RX0 127 := x_nS_tb (c0 := "LocationDesk$Node") (n0 := "yes") lF_RX0 rfl (by decide +kernel)
theorem uf_RX0_130 : x_uF RX0 130 3 6 := x_uF_tb (c0 := "LocationDesk$Node") (n0 := "next") lF_RX0 rfl (by decide +kernel)
theorem un_RX0_130 : x_nS RX0 130 := x_nS_tb (c0 := "LocationDesk$Node") (n0 := "next") lF_RX0 rfl (by decide +kernel)
theorem uf_RX0_139 : x_uF RX0 139 3 2 := x_uF_tb (c0 := "LocationDesk$Node") (n0 := "sign") lF_RX0 rfl (by decide +kernel)
theorem un_RX0_139 : x_nS RX0 139 := x_nS_tb (c0 := "LocationDesk$Node") (n0 := "sign") lF_RX0 rfl (by decide +kernel)
theorem uf_RX0_15 : x_uF RX0 15 0 1 := x_uF_tb (c0 := "LocationDesk$Coder") (n0 := "size") lF_RX0 rfl (by decide +kernel)
theorem un_RX0_15 : x_nS RX0 15 := x_nS_tb (c0 := "LocationDesk$Coder") (n0 := "size") lF_RX0 rfl (by decide +kernel)
theorem uf_RX0_19 : x_uF RX0 19 10 5 := x_uF_tb (c0 := "LocationDesk$Variable") (n0 := "rows") lF_RX0 rfl (by decide +kernel)
theorem un_RX0_19 : x_nS RX0 19 := x_nS_tb (c0 := "LocationDesk$Variable") (n0 := "rows") lF_RX0 rfl (by decide +kernel)
theorem uf_RX0_24 : x_uF RX0 24 10 4 := x_uF_tb (c0 := "LocationDesk$Variable") (n0 := "places") lF_RX0 rfl (by decide +kernel)
theorem un_RX0_24 : x_nS RX0 24 := x_nS_tb (c0 := "LocationDesk$Variable") (n0 := "places") lF_RX0 rfl (by decide +kernel)
theorem uf_RX0_32 : x_uF RX0 32 10 2 := x_uF_tb (c0 := "LocationDesk$Variable") (n0 := "from") lF_RX0 rfl (by decide +kernel)
theorem un_RX0_32 : x_nS RX0 32 := x_nS_tb (c0 := "LocationDesk$Variable") (n0 := "from") lF_RX0 rfl (by decide +kernel)
theorem uf_RX0_40 : x_uF RX0 40 10 3 := x_uF_tb (c0 := "LocationDesk$Variable") (n0 := "to") lF_RX0 rfl (by decide +kernel)
theorem un_RX0_40 : x_nS RX0 40 := x_nS_tb (c0 := "LocationDesk$Variable") (n0 := "to") lF_RX0 rfl (by decide +kernel)
theorem uf_RX0_57 : x_uF RX0 57 6 4 := x_uF_tb (c0 := "LocationDesk$Place") (n0 := "bytes") lF_RX0 rfl (by decide +kernel)
theorem un_RX0_57 : x_nS RX0 57 := x_nS_tb (c0 := "LocationDesk$Place") (n0 := "bytes") lF_RX0 rfl (by decide +kernel)
theorem uf_RX0_70 : x_uF RX0 70 6 5 := x_uF_tb (c0 := "LocationDesk$Place") (n0 := "next") lF_RX0 rfl (by decide +kernel)
theorem un_RX0_70 : x_nS RX0 70 := x_nS_tb (c0 := "LocationDesk$Place") (n0 := "next") lF_RX0 rfl (by decide +kernel)
theorem uf_RX0_74 : x_uF RX0 74 6 0 := x_uF_tb (c0 := "LocationDesk$Place") (n0 := "kind") lF_RX0 rfl (by decide +kernel)
theorem un_RX0_74 : x_nS RX0 74 := x_nS_tb (c0 := "LocationDesk$Place") (n0 := "kind") lF_RX0 rfl (by decide +kernel)
theorem uf_RX0_77 : x_uF RX0 77 6 1 := x_uF_tb (c0 := "LocationDesk$Place") (n0 := "number") lF_RX0 rfl (by decide +kernel)
theorem un_RX0_77 : x_nS RX0 77 := x_nS_tb (c0 := "LocationDesk$Place") (n0 := "number") lF_RX0 rfl (by decide +kernel)
theorem uf_RX0_81 : x_uF RX0 81 6 2 := x_uF_tb (c0 := "LocationDesk$Place") (n0 := "e") lF_RX0 rfl (by decide +kernel)
theorem un_RX0_81 : x_nS RX0 81 := x_nS_tb (c0 := "LocationDesk$Place") (n0 := "e") lF_RX0 rfl (by decide +kernel)
theorem uf_RX0_89 : x_uF RX0 89 6 3 := x_uF_tb (c0 := "LocationDesk$Place") (n0 := "block") lF_RX0 rfl (by decide +kernel)
theorem un_RX0_89 : x_nS RX0 89 := x_nS_tb (c0 := "LocationDesk$Place") (n0 := "block") lF_RX0 rfl (by decide +kernel)
theorem uf_RX0_9 : x_uF RX0 9 0 0 := x_uF_tb (c0 := "LocationDesk$Coder") (n0 := "buffer") lF_RX0 rfl (by decide +kernel)
theorem un_RX0_9 : x_nS RX0 9 := x_nS_tb (c0 := "LocationDesk$Coder") (n0 := "buffer") lF_RX0 rfl (by decide +kernel)
theorem uf_RX0_96 : x_uF RX0 96 3 0 := x_uF_tb (c0 := "LocationDesk$Node") (n0 := "kind") lF_RX0 rfl (by decide +kernel)
theorem un_RX0_96 : x_nS RX0 96 := x_nS_tb (c0 := "LocationDesk$Node") (n0 := "kind") lF_RX0 rfl (by decide +kernel)
theorem uf_RX0_99 : x_uF RX0 99 3 1 := x_uF_tb (c0 := "LocationDesk$Node") (n0 := "number") lF_RX0 rfl (by decide +kernel)
theorem un_RX0_99 : x_nS RX0 99 := x_nS_tb (c0 := "LocationDesk$Node") (n0 := "number") lF_RX0 rfl (by decide +kernel)
theorem uf_RX10_13 : x_uF RX10 13 10 3 := x_uF_tb (c0 := "LocationDesk$Variable") (n0 := "to") lF_RX10 rfl (by decide +kernel)
theorem un_RX10_13 : x_nS RX10 13 := x_nS_tb (c0 := "LocationDesk$Variable") (n0 := "to") lF_RX10 rfl (by decide +kernel)
theorem uf_RX10_18 : x_uF RX10 18 10 4 := x_uF_tb (c0 := "LocationDesk$Variable") (n0 := "places") lF_RX10 rfl (by decide +kernel)
theorem un_RX10_18 : x_nS RX10 18 := x_nS_tb (c0 := "LocationDesk$Variable") (n0 := "places") lF_RX10 rfl (by decide +kernel)
theorem uf_RX10_22 : x_uF RX10 22 10 6 := x_uF_tb (c0 := "LocationDesk$Variable") (n0 := "code") lF_RX10 rfl (by decide +kernel)
theorem un_RX10_22 : x_nS RX10 22 := x_nS_tb (c0 := "LocationDesk$Variable") (n0 := "code") lF_RX10 rfl (by decide +kernel)
theorem uf_RX10_26 : x_uF RX10 26 10 0 := x_uF_tb (c0 := "LocationDesk$Variable") (n0 := "name") lF_RX10 rfl (by decide +kernel)
theorem un_RX10_26 : x_nS RX10 26 := x_nS_tb (c0 := "LocationDesk$Variable") (n0 := "name") lF_RX10 rfl (by decide +kernel)
theorem uf_RX10_29 : x_uF RX10 29 10 1 := x_uF_tb (c0 := "LocationDesk$Variable") (n0 := "place") lF_RX10 rfl (by decide +kernel)
theorem un_RX10_29 : x_nS RX10 29 := x_nS_tb (c0 := "LocationDesk$Variable") (n0 := "place") lF_RX10 rfl (by decide +kernel)
theorem uf_RX10_9 : x_uF RX10 9 10 2 := x_uF_tb (c0 := "LocationDesk$Variable") (n0 := "from") lF_RX10 rfl (by decide +kernel)
theorem un_RX10_9 : x_nS RX10 9 := x_nS_tb (c0 := "LocationDesk$Variable") (n0 := "from") lF_RX10 rfl (by decide +kernel)
theorem uf_RX11_16 : x_uF RX11 16 11 6 := x_uF_tb (c0 := "LocationDesk") (n0 := "tape") lF_RX11 rfl (by decide +kernel)
theorem un_RX11_16 : x_nS RX11 16 := x_nS_tb (c0 := "LocationDesk") (n0 := "tape") lF_RX11 rfl (by decide +kernel)
theorem uf_RX11_23 : x_uF RX11 23 11 8 := x_uF_tb (c0 := "LocationDesk") (n0 := "report") lF_RX11 rfl (by decide +kernel)
theorem un_RX11_23 : x_nS RX11 23 := x_nS_tb (c0 := "LocationDesk") (n0 := "report") lF_RX11 rfl (by decide +kernel)
theorem uf_RX11_239 : x_uF RX11 239 4 5 := x_uF_tb (c0 := "LocationDesk$Parser") (n0 := "fault") lF_RX11 rfl (by decide +kernel)
theorem un_RX11_239 : x_nS RX11 239 := x_nS_tb (c0 := "LocationDesk$Parser") (n0 := "fault") lF_RX11 rfl (by decide +kernel)
theorem uf_RX11_242 : x_uF RX11 242 4 6 := x_uF_tb (c0 := "LocationDesk$Parser") (n0 := "place") lF_RX11 rfl (by decide +kernel)
theorem un_RX11_242 : x_nS RX11 242 := x_nS_tb (c0 := "LocationDesk$Parser") (n0 := "place") lF_RX11 rfl (by decide +kernel)
theorem uf_RX11_243 : x_uF RX11 243 4 3 := x_uF_tb (c0 := "LocationDesk$Parser") (n0 := "count") lF_RX11 rfl (by decide +kernel)
theorem un_RX11_243 : x_nS RX11 243 := x_nS_tb (c0 := "LocationDesk$Parser") (n0 := "count") lF_RX11 rfl (by decide +kernel)
theorem uf_RX11_245 : x_uF RX11 245 4 2 := x_uF_tb (c0 := "LocationDesk$Parser") (n0 := "variables") lF_RX11 rfl (by decide +kernel)
theorem un_RX11_245 : x_nS RX11 245 := x_nS_tb (c0 := "LocationDesk$Parser") (n0 := "variables") lF_RX11 rfl (by decide +kernel)
theorem uf_RX11_250 : x_uF RX11 250 10 6 := x_uF_tb (c0 := "LocationDesk$Variable") (n0 := "code") lF_RX11 rfl (by decide +kernel)
theorem un_RX11_250 : x_nS RX11 250 := x_nS_tb (c0 := "LocationDesk$Variable") (n0 := "code") lF_RX11 rfl (by decide +kernel)
theorem uf_RX11_252 : x_uF RX11 252 10 1 := x_uF_tb (c0 := "LocationDesk$Variable") (n0 := "place") lF_RX11 rfl (by decide +kernel)
theorem un_RX11_252 : x_nS RX11 252 := x_nS_tb (c0 := "LocationDesk$Variable") (n0 := "place") lF_RX11 rfl (by decide +kernel)
theorem uf_RX11_253 : x_uF RX11 253 11 12 := x_uF_tb (c0 := "LocationDesk") (n0 := "variableCount") lF_RX11 rfl (by decide +kernel)
theorem un_RX11_253 : x_nS RX11 253 := x_nS_tb (c0 := "LocationDesk") (n0 := "variableCount") lF_RX11 rfl (by decide +kernel)
theorem uf_RX11_259 : x_uF RX11 259 10 5 := x_uF_tb (c0 := "LocationDesk$Variable") (n0 := "rows") lF_RX11 rfl (by decide +kernel)
theorem un_RX11_259 : x_nS RX11 259 := x_nS_tb (c0 := "LocationDesk$Variable") (n0 := "rows") lF_RX11 rfl (by decide +kernel)
theorem uf_RX11_262 : x_uF RX11 262 10 0 := x_uF_tb (c0 := "LocationDesk$Variable") (n0 := "name") lF_RX11 rfl (by decide +kernel)
theorem un_RX11_262 : x_nS RX11 262 := x_nS_tb (c0 := "LocationDesk$Variable") (n0 := "name") lF_RX11 rfl (by decide +kernel)
theorem uf_RX11_28 : x_uF RX11 28 11 11 := x_uF_tb (c0 := "LocationDesk") (n0 := "variables") lF_RX11 rfl (by decide +kernel)
theorem un_RX11_28 : x_nS RX11 28 := x_nS_tb (c0 := "LocationDesk") (n0 := "variables") lF_RX11 rfl (by decide +kernel)
theorem uf_RX11_35 : x_uF RX11 35 11 0 := x_uF_tb (c0 := "LocationDesk") (n0 := "machine") lF_RX11 rfl (by decide +kernel)
theorem un_RX11_35 : x_nS RX11 35 := x_nS_tb (c0 := "LocationDesk") (n0 := "machine") lF_RX11 rfl (by decide +kernel)
theorem uf_RX11_58 : x_uF RX11 58 11 3 := x_uF_tb (c0 := "LocationDesk") (n0 := "parser") lF_RX11 rfl (by decide +kernel)
theorem un_RX11_58 : x_nS RX11 58 := x_nS_tb (c0 := "LocationDesk") (n0 := "parser") lF_RX11 rfl (by decide +kernel)
theorem uf_RX11_65 : x_uF RX11 65 11 4 := x_uF_tb (c0 := "LocationDesk") (n0 := "coder") lF_RX11 rfl (by decide +kernel)
theorem un_RX11_65 : x_nS RX11 65 := x_nS_tb (c0 := "LocationDesk") (n0 := "coder") lF_RX11 rfl (by decide +kernel)
theorem uf_RX11_69 : x_uF RX11 69 11 9 := x_uF_tb (c0 := "LocationDesk") (n0 := "tapeSize") lF_RX11 rfl (by decide +kernel)
theorem un_RX11_69 : x_nS RX11 69 := x_nS_tb (c0 := "LocationDesk") (n0 := "tapeSize") lF_RX11 rfl (by decide +kernel)
theorem uf_RX11_77 : x_uF RX11 77 1 2 := x_uF_tb (c0 := "LocationDesk$Machine") (n0 := "expressions") lF_RX11 rfl (by decide +kernel)
theorem un_RX11_77 : x_nS RX11 77 := x_nS_tb (c0 := "LocationDesk$Machine") (n0 := "expressions") lF_RX11 rfl (by decide +kernel)
theorem uf_RX11_85 : x_uF RX11 85 1 3 := x_uF_tb (c0 := "LocationDesk$Machine") (n0 := "lists") lF_RX11 rfl (by decide +kernel)
theorem un_RX11_85 : x_nS RX11 85 := x_nS_tb (c0 := "LocationDesk$Machine") (n0 := "lists") lF_RX11 rfl (by decide +kernel)
theorem uf_RX3_13 : x_uF RX3 13 3 1 := x_uF_tb (c0 := "LocationDesk$Node") (n0 := "number") lF_RX3 rfl (by decide +kernel)
theorem un_RX3_13 : x_nS RX3 13 := x_nS_tb (c0 := "LocationDesk$Node") (n0 := "number") lF_RX3 rfl (by decide +kernel)
theorem uf_RX3_7 : x_uF RX3 7 3 0 := x_uF_tb (c0 := "LocationDesk$Node") (n0 := "kind") lF_RX3 rfl (by decide +kernel)
theorem un_RX3_7 : x_nS RX3 7 := x_nS_tb (c0 := "LocationDesk$Node") (n0 := "kind") lF_RX3 rfl (by decide +kernel)
theorem uf_RX4_108 : x_uF RX4 108 10 5 := x_uF_tb (c0 := "LocationDesk$Variable") (n0 := "rows") lF_RX4 rfl (by decide +kernel)
theorem un_RX4_108 : x_nS RX4 108 := x_nS_tb (c0 := "LocationDesk$Variable") (n0 := "rows") lF_RX4 rfl (by decide +kernel)
theorem uf_RX4_111 : x_uF RX4 111 10 2 := x_uF_tb (c0 := "LocationDesk$Variable") (n0 := "from") lF_RX4 rfl (by decide +kernel)
theorem un_RX4_111 : x_nS RX4 111 := x_nS_tb (c0 := "LocationDesk$Variable") (n0 := "from") lF_RX4 rfl (by decide +kernel)
theorem uf_RX4_114 : x_uF RX4 114 10 3 := x_uF_tb (c0 := "LocationDesk$Variable") (n0 := "to") lF_RX4 rfl (by decide +kernel)
theorem un_RX4_114 : x_nS RX4 114 := x_nS_tb (c0 := "LocationDesk$Variable") (n0 := "to") lF_RX4 rfl (by decide +kernel)
theorem uf_RX4_12 : x_uF RX4 12 4 0 := x_uF_tb (c0 := "LocationDesk$Parser") (n0 := "reader") lF_RX4 rfl (by decide +kernel)
theorem un_RX4_12 : x_nS RX4 12 := x_nS_tb (c0 := "LocationDesk$Parser") (n0 := "reader") lF_RX4 rfl (by decide +kernel)
theorem uf_RX4_132 : x_uF RX4 132 6 5 := x_uF_tb (c0 := "LocationDesk$Place") (n0 := "next") lF_RX4 rfl (by decide +kernel)
theorem un_RX4_132 : x_nS RX4 132 := x_nS_tb (c0 := "LocationDesk$Place") (n0 := "next") lF_RX4 rfl (by decide +kernel)
theorem uf_RX4_140 : x_uF RX4 140 6 4 := x_uF_tb (c0 := "LocationDesk$Place") (n0 := "bytes") lF_RX4 rfl (by decide +kernel)
theorem un_RX4_140 : x_nS RX4 140 := x_nS_tb (c0 := "LocationDesk$Place") (n0 := "bytes") lF_RX4 rfl (by decide +kernel)
theorem uf_RX4_144 : x_uF RX4 144 6 0 := x_uF_tb (c0 := "LocationDesk$Place") (n0 := "kind") lF_RX4 rfl (by decide +kernel)
theorem un_RX4_144 : x_nS RX4 144 := x_nS_tb (c0 := "LocationDesk$Place") (n0 := "kind") lF_RX4 rfl (by decide +kernel)
theorem uf_RX4_149 : x_uF RX4 149 6 1 := x_uF_tb (c0 := "LocationDesk$Place") (n0 := "number") lF_RX4 rfl (by decide +kernel)
theorem un_RX4_149 : x_nS RX4 149 := x_nS_tb (c0 := "LocationDesk$Place") (n0 := "number") lF_RX4 rfl (by decide +kernel)
theorem uf_RX4_154 : x_uF RX4 154 6 2 := x_uF_tb (c0 := "LocationDesk$Place") (n0 := "e") lF_RX4 rfl (by decide +kernel)
theorem un_RX4_154 : x_nS RX4 154 := x_nS_tb (c0 := "LocationDesk$Place") (n0 := "e") lF_RX4 rfl (by decide +kernel)
theorem uf_RX4_162 : x_uF RX4 162 6 3 := x_uF_tb (c0 := "LocationDesk$Place") (n0 := "block") lF_RX4 rfl (by decide +kernel)
theorem un_RX4_162 : x_nS RX4 162 := x_nS_tb (c0 := "LocationDesk$Place") (n0 := "block") lF_RX4 rfl (by decide +kernel)
theorem uf_RX4_18 : x_uF RX4 18 4 1 := x_uF_tb (c0 := "LocationDesk$Parser") (n0 := "row") lF_RX4 rfl (by decide +kernel)
theorem un_RX4_18 : x_nS RX4 18 := x_nS_tb (c0 := "LocationDesk$Parser") (n0 := "row") lF_RX4 rfl (by decide +kernel)
theorem uf_RX4_186 : x_uF RX4 186 3 3 := x_uF_tb (c0 := "LocationDesk$Node") (n0 := "first") lF_RX4 rfl (by decide +kernel)
theorem un_RX4_186 : x_nS RX4 186 := x_nS_tb (c0 := "LocationDesk$Node") (n0 := "first") lF_RX4 rfl (by decide +kernel)
theorem uf_RX4_189 : x_uF RX4 189 3 4 := x_uF_tb (c0 := "LocationDesk$Node") (n0 := "yes") lF_RX4 rfl (by decide +kernel)
theorem un_RX4_189 : x_nS RX4 189 := x_nS_tb (c0 := "LocationDesk$Node") (n0 := "yes") lF_RX4 rfl (by decide +kernel)
theorem uf_RX4_192 : x_uF RX4 192 3 5 := x_uF_tb (c0 := "LocationDesk$Node") (n0 := "no") lF_RX4 rfl (by decide +kernel)
theorem un_RX4_192 : x_nS RX4 192 := x_nS_tb (c0 := "LocationDesk$Node") (n0 := "no") lF_RX4 rfl (by decide +kernel)
theorem uf_RX4_202 : x_uF RX4 202 3 6 := x_uF_tb (c0 := "LocationDesk$Node") (n0 := "next") lF_RX4 rfl (by decide +kernel)
theorem un_RX4_202 : x_nS RX4 202 := x_nS_tb (c0 := "LocationDesk$Node") (n0 := "next") lF_RX4 rfl (by decide +kernel)
theorem uf_RX4_204 : x_uF RX4 204 3 2 := x_uF_tb (c0 := "LocationDesk$Node") (n0 := "sign") lF_RX4 rfl (by decide +kernel)
theorem un_RX4_204 : x_nS RX4 204 := x_nS_tb (c0 := "LocationDesk$Node") (n0 := "sign") lF_RX4 rfl (by decide +kernel)
theorem uf_RX4_207 : x_uF RX4 207 3 0 := x_uF_tb (c0 := "LocationDesk$Node") (n0 := "kind") lF_RX4 rfl (by decide +kernel)
theorem un_RX4_207 : x_nS RX4 207 := x_nS_tb (c0 := "LocationDesk$Node") (n0 := "kind") lF_RX4 rfl (by decide +kernel)
theorem uf_RX4_208 : x_uF RX4 208 3 1 := x_uF_tb (c0 := "LocationDesk$Node") (n0 := "number") lF_RX4 rfl (by decide +kernel)
theorem un_RX4_208 : x_nS RX4 208 := x_nS_tb (c0 := "LocationDesk$Node") (n0 := "number") lF_RX4 rfl (by decide +kernel)
theorem uf_RX4_24 : x_uF RX4 24 4 2 := x_uF_tb (c0 := "LocationDesk$Parser") (n0 := "variables") lF_RX4 rfl (by decide +kernel)
theorem un_RX4_24 : x_nS RX4 24 := x_nS_tb (c0 := "LocationDesk$Parser") (n0 := "variables") lF_RX4 rfl (by decide +kernel)
theorem uf_RX4_32 : x_uF RX4 32 4 3 := x_uF_tb (c0 := "LocationDesk$Parser") (n0 := "count") lF_RX4 rfl (by decide +kernel)
theorem un_RX4_32 : x_nS RX4 32 := x_nS_tb (c0 := "LocationDesk$Parser") (n0 := "count") lF_RX4 rfl (by decide +kernel)
theorem uf_RX4_36 : x_uF RX4 36 4 4 := x_uF_tb (c0 := "LocationDesk$Parser") (n0 := "open") lF_RX4 rfl (by decide +kernel)
theorem un_RX4_36 : x_nS RX4 36 := x_nS_tb (c0 := "LocationDesk$Parser") (n0 := "open") lF_RX4 rfl (by decide +kernel)
theorem uf_RX4_39 : x_uF RX4 39 4 5 := x_uF_tb (c0 := "LocationDesk$Parser") (n0 := "fault") lF_RX4 rfl (by decide +kernel)
theorem un_RX4_39 : x_nS RX4 39 := x_nS_tb (c0 := "LocationDesk$Parser") (n0 := "fault") lF_RX4 rfl (by decide +kernel)
theorem uf_RX4_42 : x_uF RX4 42 4 6 := x_uF_tb (c0 := "LocationDesk$Parser") (n0 := "place") lF_RX4 rfl (by decide +kernel)
theorem un_RX4_42 : x_nS RX4 42 := x_nS_tb (c0 := "LocationDesk$Parser") (n0 := "place") lF_RX4 rfl (by decide +kernel)
theorem uf_RX4_45 : x_uF RX4 45 4 7 := x_uF_tb (c0 := "LocationDesk$Parser") (n0 := "token") lF_RX4 rfl (by decide +kernel)
theorem un_RX4_45 : x_nS RX4 45 := x_nS_tb (c0 := "LocationDesk$Parser") (n0 := "token") lF_RX4 rfl (by decide +kernel)
theorem uf_RX4_51 : x_uF RX4 51 4 8 := x_uF_tb (c0 := "LocationDesk$Parser") (n0 := "kind") lF_RX4 rfl (by decide +kernel)
theorem un_RX4_51 : x_nS RX4 51 := x_nS_tb (c0 := "LocationDesk$Parser") (n0 := "kind") lF_RX4 rfl (by decide +kernel)
theorem uf_RX4_54 : x_uF RX4 54 7 4 := x_uF_tb (c0 := "LocationDesk$Reader") (n0 := "count") lF_RX4 rfl (by decide +kernel)
theorem un_RX4_54 : x_nS RX4 54 := x_nS_tb (c0 := "LocationDesk$Reader") (n0 := "count") lF_RX4 rfl (by decide +kernel)
theorem uf_RX4_55 : x_uF RX4 55 7 0 := x_uF_tb (c0 := "LocationDesk$Reader") (n0 := "kinds") lF_RX4 rfl (by decide +kernel)
theorem un_RX4_55 : x_nS RX4 55 := x_nS_tb (c0 := "LocationDesk$Reader") (n0 := "kinds") lF_RX4 rfl (by decide +kernel)
theorem uf_RX4_58 : x_uF RX4 58 7 1 := x_uF_tb (c0 := "LocationDesk$Reader") (n0 := "numbers") lF_RX4 rfl (by decide +kernel)
theorem un_RX4_58 : x_nS RX4 58 := x_nS_tb (c0 := "LocationDesk$Reader") (n0 := "numbers") lF_RX4 rfl (by decide +kernel)
theorem uf_RX4_62 : x_uF RX4 62 4 9 := x_uF_tb (c0 := "LocationDesk$Parser") (n0 := "number") lF_RX4 rfl (by decide +kernel)
theorem un_RX4_62 : x_nS RX4 62 := x_nS_tb (c0 := "LocationDesk$Parser") (n0 := "number") lF_RX4 rfl (by decide +kernel)
theorem uf_RX4_66 : x_uF RX4 66 7 2 := x_uF_tb (c0 := "LocationDesk$Reader") (n0 := "places") lF_RX4 rfl (by decide +kernel)
theorem un_RX4_66 : x_nS RX4 66 := x_nS_tb (c0 := "LocationDesk$Reader") (n0 := "places") lF_RX4 rfl (by decide +kernel)
theorem uf_RX4_90 : x_uF RX4 90 10 4 := x_uF_tb (c0 := "LocationDesk$Variable") (n0 := "places") lF_RX4 rfl (by decide +kernel)
theorem un_RX4_90 : x_nS RX4 90 := x_nS_tb (c0 := "LocationDesk$Variable") (n0 := "places") lF_RX4 rfl (by decide +kernel)
theorem uf_RX4_97 : x_uF RX4 97 10 0 := x_uF_tb (c0 := "LocationDesk$Variable") (n0 := "name") lF_RX4 rfl (by decide +kernel)
theorem un_RX4_97 : x_nS RX4 97 := x_nS_tb (c0 := "LocationDesk$Variable") (n0 := "name") lF_RX4 rfl (by decide +kernel)
theorem uf_RX6_9 : x_uF RX6 9 6 4 := x_uF_tb (c0 := "LocationDesk$Place") (n0 := "bytes") lF_RX6 rfl (by decide +kernel)
theorem un_RX6_9 : x_nS RX6 9 := x_nS_tb (c0 := "LocationDesk$Place") (n0 := "bytes") lF_RX6 rfl (by decide +kernel)
theorem um_RJ7_150 : x_uM RJ7 150 arraycopyName := x_uM_tb lM_RJ7 rfl
theorem um_RJ7_304 : x_uM RJ7 304 yJ9_min_7cf53 := x_uM_tb lM_RJ7 rfl
theorem um_RJ7_316 : x_uM RJ7 316 ⟨"[I", "clone", "()Ljava/lang/Object;"⟩ := x_uM_tb lM_RJ7 rfl
theorem um_RJ7_343 : x_uM RJ7 343 yJ7_checkLength_df160 := x_uM_tb lM_RJ7 rfl
theorem um_RJ7_351 : x_uM RJ7 351 yJ7_copyOfRangeInt_feecc := x_uM_tb lM_RJ7 rfl
theorem um_RX0_100 : x_uM RX0 100 yX0_putConstant := x_uM_tb lM_RX0 rfl
theorem um_RX0_103 : x_uM RX0 103 yX0_putBased := x_uM_tb lM_RX0 rfl
theorem um_RX0_107 : x_uM RX0 107 yX0_putChoice := x_uM_tb lM_RX0 rfl
theorem um_RX0_110 : x_uM RX0 110 yX0_putChain := x_uM_tb lM_RX0 rfl
theorem um_RX0_116 : x_uM RX0 116 yX0_putUnary := x_uM_tb lM_RX0 rfl
theorem um_RX0_132 : x_uM RX0 132 yX0_isBased := x_uM_tb lM_RX0 rfl
theorem um_RX0_136 : x_uM RX0 136 yX0_isPlainTerm := x_uM_tb lM_RX0 rfl
theorem um_RX0_144 : x_uM RX0 144 yX4_operationOf := x_uM_tb lM_RX0 rfl
theorem um_RX0_150 : x_uM RX0 150 yX0_putSignedLeb := x_uM_tb lM_RX0 rfl
theorem um_RX0_28 : x_uM RX0 28 yX0_putLocation := x_uM_tb lM_RX0 rfl
theorem um_RX0_36 : x_uM RX0 36 yX0_putNumber := x_uM_tb lM_RX0 rfl
theorem um_RX0_43 : x_uM RX0 43 yX0_patch := x_uM_tb lM_RX0 rfl
theorem um_RX0_47 : x_uM RX0 47 yJ7_copyOf_59c91 := x_uM_tb lM_RX0 rfl
theorem um_RX0_53 : x_uM RX0 53 yX0_putPlace := x_uM_tb lM_RX0 rfl
theorem um_RX0_62 : x_uM RX0 62 yX0_put := x_uM_tb lM_RX0 rfl
theorem um_RX0_66 : x_uM RX0 66 yX0_putLeb := x_uM_tb lM_RX0 rfl
theorem um_RX0_85 : x_uM RX0 85 yX0_putNode := x_uM_tb lM_RX0 rfl
theorem um_RX0_92 : x_uM RX0 92 yX0_putBlock := x_uM_tb lM_RX0 rfl
theorem um_RX10_1 : x_uM RX10 1 Jvm.Lib.objectInit := x_uM_tb lM_RX10 rfl
theorem um_RX11_159 : x_uM RX11 159 yX11_tell := x_uM_tb lM_RX11 rfl
theorem um_RX11_229 : x_uM RX11 229 yX4_begin := x_uM_tb lM_RX11 rfl
theorem um_RX11_232 : x_uM RX11 232 yX4_goesOn := x_uM_tb lM_RX11 rfl
theorem um_RX11_236 : x_uM RX11 236 yX4_readDeclaration := x_uM_tb lM_RX11 rfl
theorem um_RX11_246 : x_uM RX11 246 yX0_code := x_uM_tb lM_RX11 rfl
theorem um_RX11_256 : x_uM RX11 256 yX11_isVariable := x_uM_tb lM_RX11 rfl
theorem um_RX11_265 : x_uM RX11 265 yX11_byteAt := x_uM_tb lM_RX11 rfl
theorem um_RX11_73 : x_uM RX11 73 yX11_feedFour := x_uM_tb lM_RX11 rfl
theorem um_RX11_81 : x_uM RX11 81 yX11_tapeInto := x_uM_tb lM_RX11 rfl
theorem um_RX11_88 : x_uM RX11 88 yJ7_copyOf_59c91 := x_uM_tb lM_RX11 rfl
theorem um_RX3_1 : x_uM RX3 1 Jvm.Lib.objectInit := x_uM_tb lM_RX3 rfl
theorem um_RX4_100 : x_uM RX4 100 yX4_areSame := x_uM_tb lM_RX4 rfl
theorem um_RX4_104 : x_uM RX4 104 yX4_readRange := x_uM_tb lM_RX4 rfl
theorem um_RX4_117 : x_uM RX4 117 yX4_raise := x_uM_tb lM_RX4 rfl
theorem um_RX4_121 : x_uM RX4 121 yX4_readPlace := x_uM_tb lM_RX4 rfl
theorem um_RX4_124 : x_uM RX4 124 yX4_readWidth := x_uM_tb lM_RX4 rfl
theorem um_RX4_128 : x_uM RX4 128 yX4_beginsPlace := x_uM_tb lM_RX4 rfl
theorem um_RX4_143 : x_uM RX4 143 yX6_init := x_uM_tb lM_RX4 rfl
theorem um_RX4_145 : x_uM RX4 145 yX4_refuseHighRegister := x_uM_tb lM_RX4 rfl
theorem um_RX4_150 : x_uM RX4 150 yX4_readChoice := x_uM_tb lM_RX4 rfl
theorem um_RX4_158 : x_uM RX4 158 yX4_readBlock := x_uM_tb lM_RX4 rfl
theorem um_RX4_171 : x_uM RX4 171 yJ7_copyOf_59c91 := x_uM_tb lM_RX4 rfl
theorem um_RX4_177 : x_uM RX4 177 yX4_readLevel := x_uM_tb lM_RX4 rfl
theorem um_RX4_183 : x_uM RX4 183 yX3_init := x_uM_tb lM_RX4 rfl
theorem um_RX4_195 : x_uM RX4 195 yX4_readUnary := x_uM_tb lM_RX4 rfl
theorem um_RX4_198 : x_uM RX4 198 yX4_levelOf := x_uM_tb lM_RX4 rfl
theorem um_RX4_28 : x_uM RX4 28 yX7_readAll := x_uM_tb lM_RX4 rfl
theorem um_RX4_48 : x_uM RX4 48 yX4_take := x_uM_tb lM_RX4 rfl
theorem um_RX4_69 : x_uM RX4 69 yX4_refuse := x_uM_tb lM_RX4 rfl
theorem um_RX4_73 : x_uM RX4 73 yX7_letters := x_uM_tb lM_RX4 rfl
theorem um_RX4_77 : x_uM RX4 77 yX4_isKnown := x_uM_tb lM_RX4 rfl
theorem um_RX4_81 : x_uM RX4 81 yX10_init := x_uM_tb lM_RX4 rfl
theorem um_RX4_83 : x_uM RX4 83 yX4_expect := x_uM_tb lM_RX4 rfl
theorem um_RX4_86 : x_uM RX4 86 yX4_readRows := x_uM_tb lM_RX4 rfl
theorem um_RX4_93 : x_uM RX4 93 yX4_readLocation := x_uM_tb lM_RX4 rfl
theorem um_RX6_3 : x_uM RX6 3 Jvm.Lib.objectInit := x_uM_tb lM_RX6 rfl
theorem um_RX7_128 : x_uM RX7 128 yJ7_copyOfRange_feecc := x_uM_tb lM_RX7 rfl
theorem ujJ7_checkLength_df160 : x_uJ yJ7_checkLength_df160 294 := x_uJ_nd (show xMM 294 = some _ from rfl)
theorem ujJ7_copyOfRangeInt_feecc : x_uJ yJ7_copyOfRangeInt_feecc 295 := x_uJ_nd (show xMM 295 = some _ from rfl)
theorem ujJ7_copyOfRange_feecc : x_uJ yJ7_copyOfRange_feecc 296 := x_uJ_nd (show xMM 296 = some _ from rfl)
theorem ujJ7_copyOf_59c91 : x_uJ yJ7_copyOf_59c91 297 := x_uJ_nd (show xMM 297 = some _ from rfl)
theorem ujX0_code : x_uJ yX0_code 2 := x_uJ_nd (show xMM 2 = some _ from rfl)
theorem ujX0_isBased : x_uJ yX0_isBased 10 := x_uJ_nd (show xMM 10 = some _ from rfl)
theorem ujX0_isPlainTerm : x_uJ yX0_isPlainTerm 11 := x_uJ_nd (show xMM 11 = some _ from rfl)
theorem ujX0_patch : x_uJ yX0_patch 16 := x_uJ_nd (show xMM 16 = some _ from rfl)
theorem ujX0_put : x_uJ yX0_put 14 := x_uJ_nd (show xMM 14 = some _ from rfl)
theorem ujX0_putBased : x_uJ yX0_putBased 12 := x_uJ_nd (show xMM 12 = some _ from rfl)
theorem ujX0_putBlock : x_uJ yX0_putBlock 5 := x_uJ_nd (show xMM 5 = some _ from rfl)
theorem ujX0_putChain : x_uJ yX0_putChain 9 := x_uJ_nd (show xMM 9 = some _ from rfl)
theorem ujX0_putChoice : x_uJ yX0_putChoice 8 := x_uJ_nd (show xMM 8 = some _ from rfl)
theorem ujX0_putConstant : x_uJ yX0_putConstant 13 := x_uJ_nd (show xMM 13 = some _ from rfl)
theorem ujX0_putLeb : x_uJ yX0_putLeb 17 := x_uJ_nd (show xMM 17 = some _ from rfl)
theorem ujX0_putLocation : x_uJ yX0_putLocation 3 := x_uJ_nd (show xMM 3 = some _ from rfl)
theorem ujX0_putNode : x_uJ yX0_putNode 6 := x_uJ_nd (show xMM 6 = some _ from rfl)
theorem ujX0_putNumber : x_uJ yX0_putNumber 15 := x_uJ_nd (show xMM 15 = some _ from rfl)
theorem ujX0_putPlace : x_uJ yX0_putPlace 4 := x_uJ_nd (show xMM 4 = some _ from rfl)
theorem ujX0_putSignedLeb : x_uJ yX0_putSignedLeb 18 := x_uJ_nd (show xMM 18 = some _ from rfl)
theorem ujX0_putUnary : x_uJ yX0_putUnary 7 := x_uJ_nd (show xMM 7 = some _ from rfl)
theorem ujX10_init : x_uJ yX10_init 116 := x_uJ_nd (show xMM 116 = some _ from rfl)
theorem ujX11_byteAt : x_uJ yX11_byteAt 149 := x_uJ_nd (show xMM 149 = some _ from rfl)
theorem ujX11_feedFour : x_uJ yX11_feedFour 119 := x_uJ_nd (show xMM 119 = some _ from rfl)
theorem ujX11_isVariable : x_uJ yX11_isVariable 147 := x_uJ_nd (show xMM 147 = some _ from rfl)
theorem ujX11_tapeInto : x_uJ yX11_tapeInto 123 := x_uJ_nd (show xMM 123 = some _ from rfl)
theorem ujX11_tell : x_uJ yX11_tell 137 := x_uJ_nd (show xMM 137 = some _ from rfl)
theorem ujX3_init : x_uJ yX3_init 34 := x_uJ_nd (show xMM 34 = some _ from rfl)
theorem ujX4_areSame : x_uJ yX4_areSame 44 := x_uJ_nd (show xMM 44 = some _ from rfl)
theorem ujX4_begin : x_uJ yX4_begin 36 := x_uJ_nd (show xMM 36 = some _ from rfl)
theorem ujX4_beginsPlace : x_uJ yX4_beginsPlace 49 := x_uJ_nd (show xMM 49 = some _ from rfl)
theorem ujX4_expect : x_uJ yX4_expect 40 := x_uJ_nd (show xMM 40 = some _ from rfl)
theorem ujX4_goesOn : x_uJ yX4_goesOn 37 := x_uJ_nd (show xMM 37 = some _ from rfl)
theorem ujX4_isKnown : x_uJ yX4_isKnown 43 := x_uJ_nd (show xMM 43 = some _ from rfl)
theorem ujX4_levelOf : x_uJ yX4_levelOf 55 := x_uJ_nd (show xMM 55 = some _ from rfl)
theorem ujX4_operationOf : x_uJ yX4_operationOf 57 := x_uJ_nd (show xMM 57 = some _ from rfl)
theorem ujX4_raise : x_uJ yX4_raise 41 := x_uJ_nd (show xMM 41 = some _ from rfl)
theorem ujX4_readBlock : x_uJ yX4_readBlock 52 := x_uJ_nd (show xMM 52 = some _ from rfl)
theorem ujX4_readChoice : x_uJ yX4_readChoice 53 := x_uJ_nd (show xMM 53 = some _ from rfl)
theorem ujX4_readDeclaration : x_uJ yX4_readDeclaration 42 := x_uJ_nd (show xMM 42 = some _ from rfl)
theorem ujX4_readLevel : x_uJ yX4_readLevel 54 := x_uJ_nd (show xMM 54 = some _ from rfl)
theorem ujX4_readLocation : x_uJ yX4_readLocation 47 := x_uJ_nd (show xMM 47 = some _ from rfl)
theorem ujX4_readPlace : x_uJ yX4_readPlace 50 := x_uJ_nd (show xMM 50 = some _ from rfl)
theorem ujX4_readRange : x_uJ yX4_readRange 46 := x_uJ_nd (show xMM 46 = some _ from rfl)
theorem ujX4_readRows : x_uJ yX4_readRows 45 := x_uJ_nd (show xMM 45 = some _ from rfl)
theorem ujX4_readUnary : x_uJ yX4_readUnary 56 := x_uJ_nd (show xMM 56 = some _ from rfl)
theorem ujX4_readWidth : x_uJ yX4_readWidth 48 := x_uJ_nd (show xMM 48 = some _ from rfl)
theorem ujX4_refuse : x_uJ yX4_refuse 39 := x_uJ_nd (show xMM 39 = some _ from rfl)
theorem ujX4_refuseHighRegister : x_uJ yX4_refuseHighRegister 51 := x_uJ_nd (show xMM 51 = some _ from rfl)
theorem ujX4_take : x_uJ yX4_take 38 := x_uJ_nd (show xMM 38 = some _ from rfl)
theorem ujX6_init : x_uJ yX6_init 63 := x_uJ_nd (show xMM 63 = some _ from rfl)
theorem ujX7_letters : x_uJ yX7_letters 77 := x_uJ_nd (show xMM 77 = some _ from rfl)
theorem ujX7_readAll : x_uJ yX7_readAll 65 := x_uJ_nd (show xMM 65 = some _ from rfl)
theorem uk_RX0_120 : ∀ v, Cond.constantLong RX0 120 v ∈ x_Ts → v = (8 : Int64) := x_uC_tb lC_RX0 rfl
theorem uk_RX0_153 : ∀ v, Cond.constantLong RX0 153 v ∈ x_Ts → v = (31 : Int64) := x_uC_tb lC_RX0 rfl
theorem uk_RX0_155 : ∀ v, Cond.constantLong RX0 155 v ∈ x_Ts → v = (255 : Int64) := x_uC_tb lC_RX0 rfl
theorem uk_RX0_157 : ∀ v, Cond.constantLong RX0 157 v ∈ x_Ts → v = (65535 : Int64) := x_uC_tb lC_RX0 rfl
theorem uk_RX0_159 : ∀ v, Cond.constantLong RX0 159 v ∈ x_Ts → v = (4294967295 : Int64) := x_uC_tb lC_RX0 rfl
theorem uk_RX0_161 : ∀ v, Cond.constantLong RX0 161 v ∈ x_Ts → v = (127 : Int64) := x_uC_tb lC_RX0 rfl
theorem uk_RX0_163 : ∀ v, Cond.constantLong RX0 163 v ∈ x_Ts → v = (-64 : Int64) := x_uC_tb lC_RX0 rfl
theorem uk_RX0_165 : ∀ v, Cond.constantLong RX0 165 v ∈ x_Ts → v = (63 : Int64) := x_uC_tb lC_RX0 rfl
theorem uk_RX11_205 : ∀ v, Cond.constantLong RX11 205 v ∈ x_Ts → v = (100 : Int64) := x_uC_tb lC_RX11 rfl
theorem uk_RX11_269 : ∀ v, Cond.constantLong RX11 269 v ∈ x_Ts → v = (1000 : Int64) := x_uC_tb lC_RX11 rfl
theorem uk_RX4_138 : ∀ v, Cond.constantLong RX4 138 v ∈ x_Ts → v = (64 : Int64) := x_uC_tb lC_RX4 rfl
theorem uk_RX4_167 : ∀ v, Cond.constantLong RX4 167 v ∈ x_Ts → v = (32 : Int64) := x_uC_tb lC_RX4 rfl
theorem uk_RX4_169 : ∀ v, Cond.constantLong RX4 169 v ∈ x_Ts → v = (255 : Int64) := x_uC_tb lC_RX4 rfl
theorem uo_RJ7_43 : ∀ z, Cond.classLink RJ7 43 z ∈ x_Ts → False := u_cn_of (by decide +kernel)
theorem uq_RX10_16 : x_uQ RX10 16 5 := x_uQ_of (c0 := RX6) (by decide +kernel) (by decide +kernel)
theorem uq_RX4_22 : x_uQ RX4 22 4 := x_uQ_of (c0 := RX10) (by decide +kernel) (by decide +kernel)
theorem uw_RX4_133 : x_uN RX4 133 6 := x_uN_of (c0 := RX6) (by decide +kernel) (by decide +kernel)
theorem uw_RX4_181 : x_uN RX4 181 3 := x_uN_of (c0 := RX3) (by decide +kernel) (by decide +kernel)
theorem uw_RX4_22 : x_uN RX4 22 10 := x_uN_of (c0 := RX10) (by decide +kernel) (by decide +kernel)
end
