/-! THE CLASS'S PARSER: locations. -/
/-- a location's bytes, as the coder walks it -/
def w_lc (F : Nat → Nat → Int32) (L : Nat → Nat → Int64) (R : Nat → Nat → Option Nat) (SH : Nat → Nat × Nat) : Nat → Option Nat → List Int → Prop
  | 0, _, _ => False
  | _ + 1, none, code => code = []
  | f + 1, some c, code => ∃ a r, w_pl F L R SH c a ∧ w_lc F L R SH f (R c 5) r ∧ (-1 ≤ (F c 4).toInt ∧ ((F c 4).toInt = -1 → R c 5 = none) ∧ ∀ d, R c 5 = some d → 0 ≤ (F d 4).toInt) ∧ code = a ++ ((if (F c 4).toInt = -1 then [] else 147 :: lc_u 9 (F c 4).toInt) ++ r)
def m_al (lo hi : Nat) (FI : Nat → Nat → Int32) (FL : Nat → Nat → Int64) (FR : Nat → Nat → Option Nat) (SH : Nat → Nat × Nat) (F2 : Nat → Nat → Int32) (L2 : Nat → Nat → Int64) (R2 : Nat → Nat → Option Nat) (S2 : Nat → Nat × Nat) : Prop := (∀ q k, lo ≤ q → q < hi → F2 q k = FI q k) ∧ (∀ q k, lo ≤ q → q < hi → L2 q k = FL q k) ∧ (∀ q k, lo ≤ q → q < hi → R2 q k = FR q k) ∧ (∀ q, lo ≤ q → q < hi → S2 q = SH q)
/-- a location, by meaning -/
def m_lc (FI : Nat → Nat → Int32) (FL : Nat → Nat → Int64) (FR : Nat → Nat → Option Nat) (SH : Nat → Nat × Nat) (lo hi a : Nat) (code : List Int) : Prop := 176 ≤ lo ∧ ∀ F2 L2 R2 S2, m_al lo hi FI FL FR SH F2 L2 R2 S2 → ∃ f, w_lc F2 L2 R2 S2 f (some a) code
theorem w_lc_ge {F : Nat → Nat → Int32} {L : Nat → Nat → Int64} {R : Nat → Nat → Option Nat} {SH : Nat → Nat × Nat} {f d : Nat} {code : List Int} (h : w_lc F L R SH f (some d) code) : 176 ≤ d := by
  cases f with
  | zero => exact h.elim
  | succ f =>
    obtain ⟨a, r, h1, -⟩ := h
    exact h1.1
/-- parts under way: l the last -/
def m_cw (FI : Nat → Nat → Int32) (FL : Nat → Nat → Int64) (FR : Nat → Nat → Option Nat) (SH : Nat → Nat × Nat) (lo hi a l : Nat) (code : List Int) : Prop := 176 ≤ lo ∧ lo ≤ l ∧ l < hi ∧ ∀ F2 L2 R2 S2, ((∀ q k, lo ≤ q → q < hi → F2 q k = FI q k) ∧ (∀ q k, lo ≤ q → q < hi → L2 q k = FL q k) ∧ (∀ q k, lo ≤ q → q < hi → ¬ (q = l ∧ k = 5) → R2 q k = FR q k) ∧ (∀ q, lo ≤ q → q < hi → S2 q = SH q)) → ∀ f r, w_lc F2 L2 R2 S2 f (R2 l 5) r → (∀ d, R2 l 5 = some d → 0 ≤ (F2 d 4).toInt) → ∃ f2, w_lc F2 L2 R2 S2 f2 (some a) (code ++ r)
section ML
variable {FI F2 : Nat → Nat → Int32} {FL L2 : Nat → Nat → Int64} {FR R2 : Nat → Nat → Option Nat} {SH S2 : Nat → Nat × Nat} {lo hi a l c : Nat} {code : List Int}
theorem m_lc_fr (h : m_lc FI FL FR SH lo hi a code) (ha : m_al lo hi FI FL FR SH F2 L2 R2 S2) : m_lc F2 L2 R2 S2 lo hi a code :=
  ⟨h.1, fun F3 L3 R3 S3 h3 => h.2 F3 L3 R3 S3 ⟨fun q k y1 y2 => (h3.1 q k y1 y2).trans (ha.1 q k y1 y2), fun q k y1 y2 => (h3.2.1 q k y1 y2).trans (ha.2.1 q k y1 y2), fun q k y1 y2 => (h3.2.2.1 q k y1 y2).trans (ha.2.2.1 q k y1 y2), fun q y1 y2 => (h3.2.2.2 q y1 y2).trans (ha.2.2.2 q y1 y2)⟩⟩
/-- a place alone -/
theorem m_lc_1 (h : m_pl FI FL FR SH lo hi c code) (h4 : (FI c 4).toInt = -1) (h5 : FR c 5 = none) : m_lc FI FL FR SH lo hi c code := by
  refine ⟨h.1, fun F2 L2 R2 S2 ha => ⟨2, code, [], ?_, ?_, ?_, ?_⟩⟩
  · exact h.2.2.2 F2 L2 R2 S2 ⟨fun q k y1 y2 _ => ha.1 q k y1 y2, fun q k y1 y2 => ha.2.1 q k y1 y2, fun q k y1 y2 _ => ha.2.2.1 q k y1 y2, fun q y1 y2 => ha.2.2.2 q y1 y2⟩
  · rw [ha.2.2.1 c 5 h.2.1 h.2.2.1, h5]
    rfl
  · refine ⟨by rw [ha.1 c 4 h.2.1 h.2.2.1, h4]; decide, fun _ => by rw [ha.2.2.1 c 5 h.2.1 h.2.2.1, h5], fun d hd => ?_⟩
    rw [ha.2.2.1 c 5 h.2.1 h.2.2.1, h5] at hd
    cases hd
  · rw [ha.1 c 4 h.2.1 h.2.2.1, h4, if_pos rfl, List.append_nil, List.append_nil]
/-- the first part -/
theorem m_cw_1 (h : m_pl FI FL FR SH lo hi c code) {w : Int} (h4 : (FI c 4).toInt = w) (hw : 0 ≤ w) : m_cw FI FL FR SH lo hi c c (code ++ 147 :: lc_u 9 w) := by
  refine ⟨h.1, h.2.1, h.2.2.1, fun F2 L2 R2 S2 ha f r hr hd => ⟨f + 1, code, r, ?_, hr, ?_, ?_⟩⟩
  · exact h.2.2.2 F2 L2 R2 S2 ⟨fun q k y1 y2 _ => ha.1 q k y1 y2, fun q k y1 y2 => ha.2.1 q k y1 y2, fun q k y1 y2 y3 => ha.2.2.1 q k y1 y2 y3, fun q y1 y2 => ha.2.2.2 q y1 y2⟩
  · refine ⟨by rw [ha.1 c 4 h.2.1 h.2.2.1, h4]; omega, fun e => ?_, hd⟩
    rw [ha.1 c 4 h.2.1 h.2.2.1, h4] at e
    exfalso
    omega
  · rw [ha.1 c 4 h.2.1 h.2.2.1, h4, if_neg (by omega), List.append_assoc]
/-- one more -/
theorem m_cw_s {lo2 hi2 : Nat} {ce : List Int} (q1 : m_cw FI FL FR SH lo hi a l code) (h : m_pl FI FL FR SH lo2 hi2 c ce) {w : Int} (h4 : (FI c 4).toInt = w) (hw : 0 ≤ w) (h5 : FR l 5 = some c) (i2 : hi ≤ lo2) : m_cw FI FL FR SH lo hi2 a c (code ++ (ce ++ 147 :: lc_u 9 w)) := by
  have b1 := q1.2.1
  have b2 := q1.2.2.1
  have b3 := h.2.1
  have b4 := h.2.2.1
  refine ⟨q1.1, by omega, b4, fun F2 L2 R2 S2 ha f r hr hd => ?_⟩
  have e5 : R2 l 5 = some c := (ha.2.2.1 l 5 b1 (by omega) (by omega)).trans h5
  have hc : w_lc F2 L2 R2 S2 (f + 1) (some c) ((ce ++ 147 :: lc_u 9 w) ++ r) := by
    refine ⟨ce, r, ?_, hr, ?_, ?_⟩
    · exact h.2.2.2 F2 L2 R2 S2 ⟨fun q k y1 y2 _ => ha.1 q k (by omega) y2, fun q k y1 y2 => ha.2.1 q k (by omega) y2, fun q k y1 y2 y3 => ha.2.2.1 q k (by omega) y2 y3, fun q y1 y2 => ha.2.2.2 q (by omega) y2⟩
    · refine ⟨by rw [ha.1 c 4 (by omega) b4, h4]; omega, fun e => ?_, hd⟩
      rw [ha.1 c 4 (by omega) b4, h4] at e
      exfalso
      omega
    · rw [ha.1 c 4 (by omega) b4, h4, if_neg (by omega), List.append_assoc]
  obtain ⟨f2, h2⟩ := q1.2.2.2 F2 L2 R2 S2 ⟨fun q k y1 y2 => ha.1 q k y1 (by omega), fun q k y1 y2 => ha.2.1 q k y1 (by omega), fun q k y1 y2 _ => ha.2.2.1 q k y1 (by omega) (by omega), fun q y1 y2 => ha.2.2.2 q y1 (by omega)⟩ (f + 1) _ (by rw [e5]; exact hc) (fun d hd2 => by rw [e5] at hd2; cases hd2; rw [ha.1 c 4 (by omega) b4, h4]; exact hw)
  exact ⟨f2, by rw [List.append_assoc]; exact h2⟩
theorem m_cw_fr (q1 : m_cw FI FL FR SH lo hi a l code) (ha : (∀ q k, lo ≤ q → q < hi → F2 q k = FI q k) ∧ (∀ q k, lo ≤ q → q < hi → L2 q k = FL q k) ∧ (∀ q k, lo ≤ q → q < hi → ¬ (q = l ∧ k = 5) → R2 q k = FR q k) ∧ (∀ q, lo ≤ q → q < hi → S2 q = SH q)) : m_cw F2 L2 R2 S2 lo hi a l code :=
  ⟨q1.1, q1.2.1, q1.2.2.1, fun F3 L3 R3 S3 h3 f r hr hd => q1.2.2.2 F3 L3 R3 S3 ⟨fun q k y1 y2 => (h3.1 q k y1 y2).trans (ha.1 q k y1 y2), fun q k y1 y2 => (h3.2.1 q k y1 y2).trans (ha.2.1 q k y1 y2), fun q k y1 y2 y3 => (h3.2.2.1 q k y1 y2 y3).trans (ha.2.2.1 q k y1 y2 y3), fun q y1 y2 => (h3.2.2.2 q y1 y2).trans (ha.2.2.2 q y1 y2)⟩ f r hr hd⟩
/-- the end -/
theorem m_cw_e (q1 : m_cw FI FL FR SH lo hi a l code) (h5 : FR l 5 = none) : m_lc FI FL FR SH lo hi a code := by
  refine ⟨q1.1, fun F2 L2 R2 S2 ha => ?_⟩
  obtain ⟨f, h⟩ := q1.2.2.2 F2 L2 R2 S2 ⟨ha.1, ha.2.1, fun q k y1 y2 _ => ha.2.2.1 q k y1 y2, ha.2.2.2⟩ 1 [] (by rw [ha.2.2.1 l 5 q1.2.1 q1.2.2.1, h5]; rfl) (fun d hd => by rw [ha.2.2.1 l 5 q1.2.1 q1.2.2.1, h5] at hd; cases hd)
  rw [List.append_nil] at h
  exact ⟨f, h⟩
end ML
section SL
variable {K W : Nat → Int} {M : Nat} {n sl : Nat} {SH : Nat → Nat × Nat} {FI : Nat → Nat → Int32} {FL : Nat → Nat → Int64} {FR : Nat → Nat → Option Nat} {v : Option Nat} {s : hS} {t : Nat} {o : Int}
/-- what a width changes -/
def a_wd (c : Nat) (FI F2 : Nat → Nat → Int32) (FL L2 : Nat → Nat → Int64) : Prop := (∀ q k, ¬ (q = 110 ∧ 4 ≤ k ∧ k ≤ 8) → ¬ (q = c ∧ k = 4) → F2 q k = FI q k) ∧ (∀ q k, ¬ (q = 110 ∧ k = 9) → L2 q k = FL q k)
theorem s_width_f {c : Nat} {u : Unit} (hc : 176 ≤ c) (hf : s_ft FI) (h : RX4_readWidth (some c) n sl SH FI FL FR u s) : ∃ F2, s = (n, sl, SH, F2, FL, FR) ∧ a_wd c FI F2 FL FL ∧ s_ft F2 := by
  obtain ⟨v0, n0, sl0, SH0, FI0, FL0, FR0, hx, h⟩ := h
  have e := s_expect_f hx hf.1
  cases e
  rcases h with ⟨h5, -⟩ | ⟨-, h⟩
  · exfalso
    rw [hf.2] at h5
    revert h5
    decide
  · obtain ⟨c9, e9, v9, n9, sl9, SH9, FI9, FL9, FR9, hx2, -, rfl⟩ := h
    cases e9
    have ft := ft_c (k := 4) (x := (FL 110 9).toInt32) hc hf
    have e := s_expect_f hx2 ft.1
    cases e
    exact ⟨_, rfl, ⟨fun q k _ y2 => h_up_x y2, fun _ _ _ => rfl⟩, ft⟩
theorem s_width {c : Nat} {u : Unit} (hc : 176 ≤ c) (hq : q_tk K W M FI FL) (hv : s_vw M FI FL t o) (h : RX4_readWidth (some c) n sl SH FI FL FR u s) : ∃ F2 L2, s = (n, sl, SH, F2, L2, FR) ∧ a_wd c FI F2 FL L2 ∧ (((K t = 5 ∧ W t = 47 ∧ K (t + 1) = 3 ∧ W (t + 1) ≤ 64) ∧ 0 ≤ W (t + 1) ∧ (F2 c 4).toInt = W (t + 1) ∧ s_vw M F2 L2 (t + 2) o) ∨ (¬ (K t = 5 ∧ W t = 47 ∧ K (t + 1) = 3 ∧ W (t + 1) ≤ 64) ∧ s_ft F2)) := by
  have z5 : ((5 : Int32)).toInt = 5 := by decide
  have z64 : ((64 : Int64)).toInt = 64 := by decide
  obtain ⟨v0, n0, sl0, SH0, FI0, FL0, FR0, hx, h⟩ := h
  obtain ⟨F0, L0, e, a0, r0⟩ := s_expect (w := 47) hx (by decide) (by decide) hq hv
  cases e
  rcases r0 with ⟨ht, r, w0⟩ | ⟨r, ft⟩
  · have kr := (hq.2.1 t ht).2.1
    have ce := ck_e kr
    have hK : K t = 5 ∧ W t = 47 := by omega
    have hq0 := q_a hq a0
    have kd := s_kd hq0 w0
    rcases h with ⟨h5, h⟩ | ⟨h5, h⟩
    · rw [z5] at h5
      rcases kd with ⟨ht2, kd, -, kr2, k3, -⟩ | ⟨-, -, kd⟩
      · have ce2 := ck_e kr2
        have hK3 : K (t + 1) = 3 := by omega
        obtain ⟨j1, j2, j3⟩ := k3 hK3
        rcases h with ⟨h6, h⟩ | ⟨h6, h⟩
        · rw [z64, j1] at h6
          obtain ⟨v3, n3, sl3, SH3, FI3, FL3, FR3, hr, c5, e5, v5, n5, sl5, SH5, FI5, FL5, FR5, hx2, -, rfl⟩ := h
          cases e5
          obtain ⟨F3, e, a3, ft⟩ := s_refuse hr (by decide) hq0 w0
          cases e
          have ft2 := ft_c (k := 4) (x := (FL0 110 9).toInt32) hc ft
          have e := s_expect_f hx2 ft2.1
          cases e
          exact ⟨_, _, rfl, ⟨fun q k y1 y2 => by rw [h_up_x y2, a3.1 q k y1, a0.1 q k y1], fun q k y1 => a0.2 q k y1⟩, Or.inr ⟨by omega, ft2⟩⟩
        · rw [z64, j1] at h6
          obtain ⟨c7, e7, v7, n7, sl7, SH7, FI7, FL7, FR7, hx2, -, rfl⟩ := h
          cases e7
          obtain ⟨q1, w1⟩ := s_wI (c := c) (k := 4) (x := (FL0 110 9).toInt32) hc ⟨hq0, w0⟩
          obtain ⟨F2, L2, e, a2, r2⟩ := s_expect (w := 5) hx2 (by decide) (by decide) q1 w1
          cases e
          refine ⟨_, _, rfl, ⟨fun q k y1 y2 => by rw [a2.1 q k y1, h_up_x y2, a0.1 q k y1], fun q k y1 => by rw [a2.2 q k y1, a0.2 q k y1]⟩, ?_⟩
          rcases r2 with ⟨-, -, w2⟩ | ⟨r2, -⟩
          · exact Or.inl ⟨⟨hK.1, hK.2, hK3, by omega⟩, j2, by rw [a2.1 c 4 (by omega), h_up_eq]; exact l_2i j1 (by omega) (by omega), w2⟩
          · exfalso
            have := r2 ht2
            omega
      · exfalso; omega
    · rw [z5] at h5
      obtain ⟨c9, e9, v9, n9, sl9, SH9, FI9, FL9, FR9, hx2, -, rfl⟩ := h
      cases e9
      obtain ⟨q1, w1⟩ := s_wI (c := c) (k := 4) (x := (FL0 110 9).toInt32) hc ⟨hq0, w0⟩
      obtain ⟨F2, L2, e, a2, r2⟩ := s_expect (w := 5) hx2 (by decide) (by decide) q1 w1
      cases e
      refine ⟨_, _, rfl, ⟨fun q k y1 y2 => by rw [a2.1 q k y1, h_up_x y2, a0.1 q k y1], fun q k y1 => by rw [a2.2 q k y1, a0.2 q k y1]⟩, ?_⟩
      rcases r2 with ⟨ht2, r2, -⟩ | ⟨-, ft⟩
      · exfalso
        rcases kd with ⟨-, kd, -⟩ | ⟨e, -⟩
        · omega
        · omega
      · refine Or.inr ⟨fun h => ?_, ft⟩
        rcases kd with ⟨-, kd, -, kr2, -⟩ | ⟨-, kK, -⟩
        · have ce2 := ck_e kr2
          omega
        · omega
  · have nK : ¬ (K t = 5 ∧ W t = 47 ∧ K (t + 1) = 3 ∧ W (t + 1) ≤ 64) := by
      intro h
      rcases s_kd hq hv with ⟨ht, -, -, kr, -⟩ | ⟨-, kK, -⟩
      · have ce := ck_e kr
        have := r ht
        omega
      · omega
    have hX : ∃ F2, s = (n, sl, SH, F2, FL0, FR) ∧ a_wd c FI0 F2 FL0 FL0 ∧ s_ft F2 := by
      rcases h with ⟨h5, -⟩ | ⟨-, h⟩
      · exfalso
        rw [ft.2] at h5
        revert h5
        decide
      · obtain ⟨c9, e9, v9, n9, sl9, SH9, FI9, FL9, FR9, hx2, -, rfl⟩ := h
        cases e9
        have ft2 := ft_c (k := 4) (x := (FL0 110 9).toInt32) hc ft
        have e := s_expect_f hx2 ft2.1
        cases e
        exact ⟨_, rfl, ⟨fun q k _ y2 => h_up_x y2, fun _ _ _ => rfl⟩, ft2⟩
    obtain ⟨F2, rfl, a2, ft2⟩ := hX
    exact ⟨_, _, rfl, ⟨fun q k y1 y2 => by rw [a2.1 q k y1 y2, a0.1 q k y1], fun q k y1 => a0.2 q k y1⟩, Or.inr ⟨nK, ft2⟩⟩
/-- a place behind a fault -/
theorem s_place_f (hQ : h_S n SH) (hf : s_ft FI) (h : RX4_readPlace n sl SH FI FL FR v s) : ∃ sl2 SH2 F2 L2 R2, v = some n ∧ s = (n + 1, sl2, SH2, F2, L2, R2) ∧ b_ct n SH FI FL FR (n + 1) SH2 F2 L2 R2 ∧ s_ft F2 := by
  have h176 := hQ.1
  obtain ⟨v0, n0, sl0, SH0, FI0, FL0, FR0, k0, v1, n1, sl1, SH1, FI1, FL1, FR1, k1, h⟩ := h
  obtain ⟨sl', SH', F', L', R', e, q0, q1, q2, q3⟩ := b_nw hQ k0
  cases e
  obtain ⟨-, e⟩ := k1
  cases e
  have b1 := b_wI (k := 4) (x := (-1 : Int32)) q0 h176 (Nat.le_refl _)
  have hf0 : s_ft FI0 := by unfold s_ft; rw [q2]; exact hf
  have hf1 : s_ft (h_up FI0 n 4 (-1 : Int32)) := ft_c h176 hf0
  have nb : ¬ ((h_up FI0 n 4 (-1 : Int32) 110 8).toInt = 7 ∨ (h_up FI0 n 4 (-1 : Int32) 110 8).toInt = 91 ∨ (h_up FI0 n 4 (-1 : Int32) 110 8).toInt = 8 ∨ (h_up FI0 n 4 (-1 : Int32) 110 8).toInt = 9 ∨ (h_up FI0 n 4 (-1 : Int32) 110 8).toInt = 10) := by rw [hf1.2]; omega
  rcases h with ⟨-, h⟩ | ⟨hb, -⟩
  · obtain ⟨v4, n4, sl4, SH4, FI4, FL4, FR4, hr, h⟩ := h
    have e := s_refuse_f hr hf1.1
    cases e
    rcases h with ⟨h7, -⟩ | ⟨-, h⟩
    · exfalso; exact nb (Or.inl h7)
    · rcases h with ⟨h7, -⟩ | ⟨-, h⟩
      · exfalso; exact nb (Or.inr (Or.inl h7))
      · rcases h with ⟨h7, -⟩ | ⟨-, h⟩
        · exfalso; exact nb (Or.inr (Or.inr (Or.inl h7)))
        · rcases h with ⟨h7, -⟩ | ⟨-, rfl, rfl⟩
          · exfalso; exact nb (Or.inr (Or.inr (Or.inr (Or.inl h7))))
          · exact ⟨_, _, _, _, _, rfl, rfl, b1, hf1⟩
  · exfalso
    exact hb (s_begins.mpr nb)
/-- parts behind a fault -/
theorem s_lf {g : Nat} {l1 l2 : Option Nat} {l3 : Int32} (hf : s_ft FI) (h : GX4_readLocation_39 g l1 l2 l3 n sl SH FI FL FR v s) : ∃ x, v = l1 ∧ s = (n, sl, SH, h_up FI 110 4 x, FL, FR) := by
  cases g with
  | zero => exact h.elim
  | succ g =>
    rcases h with ⟨-, h⟩ | ⟨-, h⟩
    · obtain ⟨v1, n1, sl1, SH1, FI1, FL1, FR1, hx, rfl, rfl⟩ := h
      have e := s_expect_f hx hf.1
      cases e
      exact ⟨_, rfl, rfl⟩
    · rcases h with ⟨h5, -⟩ | ⟨-, h⟩
      · exfalso
        rw [hf.2] at h5
        revert h5
        decide
      · obtain ⟨v1, n1, sl1, SH1, FI1, FL1, FR1, hx, rfl, rfl⟩ := h
        have e := s_expect_f hx hf.1
        cases e
        exact ⟨_, rfl, rfl⟩
end SL
