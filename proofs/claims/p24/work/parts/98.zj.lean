/-! THE CLASS'S PARSER: take, refuse, expect, raise. -/
section SP
variable {K W : Nat → Int} {M : Nat} {n sl : Nat} {SH : Nat → Nat × Nat} {FI : Nat → Nat → Int32} {FL : Nat → Nat → Int64} {FR : Nat → Nat → Option Nat} {t : Nat} {o : Int} {s : hS}
theorem c_lv {a : Int32} : (fX4_levelOf a SH FI FL FR).toInt = n_lv a.toInt := by
  unfold fX4_levelOf n_lv
  rw [i_ite, i_ite, i_ite, i_ite, i_ite, i_ite, i_ite]
  rfl
/-- no fault: at token t, o open -/
def s_vw (M : Nat) (FI : Nat → Nat → Int32) (FL : Nat → Nat → Int64) (t : Nat) (o : Int) : Prop := (FI 110 5).toInt = 0 ∧ (FI 110 7).toInt = t ∧ t ≤ M ∧ FI 110 8 = FI 112 t ∧ FL 110 9 = FL 113 t ∧ (FI 110 4).toInt = o
/-- a fault -/
def s_ft (F : Nat → Nat → Int32) : Prop := (F 110 5).toInt ≠ 0 ∧ (F 110 8).toInt = 1
/-- what the parser's first methods change -/
def a_fr (FI F2 : Nat → Nat → Int32) (FL L2 : Nat → Nat → Int64) : Prop := (∀ c k, ¬ (c = 110 ∧ 4 ≤ k ∧ k ≤ 8) → F2 c k = FI c k) ∧ (∀ c k, ¬ (c = 110 ∧ k = 9) → L2 c k = FL c k)
theorem a_rf : a_fr FI FI FL FL := ⟨fun _ _ _ => rfl, fun _ _ _ => rfl⟩
theorem a_t {F2 F3 : Nat → Nat → Int32} {L2 L3 : Nat → Nat → Int64} (h : a_fr FI F2 FL L2) (h2 : a_fr F2 F3 L2 L3) : a_fr FI F3 FL L3 := ⟨fun c k g => (h2.1 c k g).trans (h.1 c k g), fun c k g => (h2.2 c k g).trans (h.2 c k g)⟩
theorem q_fr {F2 : Nat → Nat → Int32} {L2 : Nat → Nat → Int64} (hq : q_tk K W M FI FL) (h : F2 112 = FI 112 ∧ F2 111 4 = FI 111 4 ∧ L2 113 = FL 113) : q_tk K W M F2 L2 := by
  unfold q_tk
  rw [h.1, h.2.1, h.2.2]
  exact hq
theorem q_a {F2 : Nat → Nat → Int32} {L2 : Nat → Nat → Int64} (hq : q_tk K W M FI FL) (h : a_fr FI F2 FL L2) : q_tk K W M F2 L2 := q_fr hq ⟨by funext k; exact h.1 112 k (by omega), h.1 111 4 (by omega), by funext k; exact h.2 113 k (by omega)⟩
theorem s_cnt (hq : q_tk K W M FI FL) : ((M + 1 : Nat) : Int) ≤ (FI 111 4).toInt := by
  rcases hq.2.2 with h | ⟨-, h | h⟩ <;> omega
/-- the kind in hand -/
theorem s_kd (hq : q_tk K W M FI FL) (hv : s_vw M FI FL t o) : (t < M ∧ (FI 110 8).toInt = t_ck (K t) (W t) ∧ K t ≠ 0 ∧ k_rg (K t) (W t) ∧ (K t = 3 → (FL 110 9).toInt = W t ∧ 0 ≤ W t ∧ W t ≤ 999999999999999999) ∧ (K t = 4 → (FL 110 9).toInt = W t ∧ 1 ≤ W t ∧ W t ≤ 8)) ∨ (t = M ∧ (K t = 0 ∨ K t = 6) ∧ ((FI 110 8).toInt = 2 ∨ (FI 110 8).toInt = 3 ∨ (FI 110 8).toInt = 4)) := by
  rcases Nat.lt_or_ge t M with h | h
  · have q := hq.2.1 t h
    refine Or.inl ⟨h, ?_, q.1, q.2.1, ?_, ?_⟩
    · rw [hv.2.2.2.1]; exact q.2.2.1
    · rw [hv.2.2.2.2.1]; exact q.2.2.2.1
    · rw [hv.2.2.2.2.1]; exact q.2.2.2.2
  · have e : t = M := by have := hv.2.2.1; omega
    subst e
    rw [hv.2.2.2.1]
    refine Or.inr ⟨rfl, ?_⟩
    rcases hq.2.2 with h | ⟨h1, h | h⟩
    · exact ⟨Or.inl h.1, Or.inl h.2.1⟩
    · exact ⟨Or.inr h1, Or.inr (Or.inl h.1)⟩
    · exact ⟨Or.inr h1, Or.inr (Or.inr h.1)⟩
theorem s_take {v : Unit} (h : RX4_take n sl SH FI FL FR v s) (hq : q_tk K W M FI FL) (hv : s_vw M FI FL t o) (ht : t < M) : ∃ F2 L2, s = (n, sl, SH, F2, L2, FR) ∧ a_fr FI F2 FL L2 ∧ s_vw M F2 L2 (t + 1) o := by
  have hM := hq.1
  rcases h with ⟨h1, h⟩ | ⟨h1, h⟩
  · have e1 : ((FI 110 7) + (1 : Int32)).toInt = ((t + 1 : Nat) : Int) := by rw [i_add hv.2.1 (by decide : ((1 : Int32)).toInt = 1) (by omega) (by omega)]; omega
    have en : ((FI 110 7) + (1 : Int32)).toInt.toNat = t + 1 := by omega
    rcases h with ⟨h2, -, -, -, rfl⟩ | ⟨h2, -⟩
    · rw [en]
      refine ⟨_, _, rfl, ⟨fun c k hck => ?_, fun c k hck => h_up_x hck⟩, ?_, ?_, ht, ?_, ?_, ?_⟩
      · rw [h_up_x (fun h => hck ⟨h.1, by omega, by omega⟩), h_up_x (fun h => hck ⟨h.1, by omega, by omega⟩)]
      · rw [h_up_x (by decide), h_up_x (by decide)]; exact hv.1
      · rw [h_up_x (by decide), h_up_eq]; exact e1
      · rw [h_up_eq, h_up_nc (by decide), h_up_nc (by decide)]
      · rw [h_up_eq, h_up_nc (by decide)]
      · rw [h_up_x (by decide), h_up_x (by decide)]; exact hv.2.2.2.2.2
    · exfalso
      rw [e1] at h2
      have := s_cnt hq
      omega
  · exact absurd hv.1 h1
theorem s_take_f {v : Unit} (h : RX4_take n sl SH FI FL FR v s) (hf : (FI 110 5).toInt ≠ 0) : s = (n, sl, SH, FI, FL, FR) := by
  rcases h with ⟨h1, -⟩ | ⟨-, -, h⟩
  · exact absurd h1 hf
  · exact h
theorem s_refuse {a : Int32} {v : Unit} (h : RX4_refuse a n sl SH FI FL FR v s) (ha : a.toInt ≠ 0) (hq : q_tk K W M FI FL) (hv : s_vw M FI FL t o) : ∃ F2, s = (n, sl, SH, F2, FL, FR) ∧ a_fr FI F2 FL FL ∧ s_ft F2 := by
  rcases h with ⟨h1, h⟩ | ⟨h1, -⟩
  · rcases h with ⟨h2, -⟩ | ⟨h2, h⟩
    · exfalso
      rw [hv.2.1] at h2
      omega
    · rcases h with ⟨h3, -, -, rfl⟩ | ⟨h3, -⟩
      · refine ⟨_, rfl, ⟨fun c k hck => ?_, fun _ _ _ => rfl⟩, ?_⟩
        · rw [h_up_x (fun h => hck ⟨h.1, by omega, by omega⟩), h_up_x (fun h => hck ⟨h.1, by omega, by omega⟩), h_up_x (fun h => hck ⟨h.1, by omega, by omega⟩)]
        · exact ⟨by rw [h_up_x (by decide), h_up_x (by decide), h_up_eq]; exact ha, by rw [h_up_eq]; decide⟩
      · exfalso
        rw [hv.2.1] at h3
        have := s_cnt hq
        have := hv.2.2.1
        omega
  · exact absurd hv.1 h1
theorem s_refuse_f {a : Int32} {v : Unit} (h : RX4_refuse a n sl SH FI FL FR v s) (hf : (FI 110 5).toInt ≠ 0) : s = (n, sl, SH, FI, FL, FR) := by
  rcases h with ⟨h1, -⟩ | ⟨-, -, h⟩
  · exact absurd h1 hf
  · exact h
theorem s_expect {a : Int32} {w : Int} {v : Unit} (h : RX4_expect a n sl SH FI FL FR v s) (ha : a.toInt = w) (hw : w ≠ 2 ∧ w ≠ 3 ∧ w ≠ 4) (hq : q_tk K W M FI FL) (hv : s_vw M FI FL t o) : ∃ F2 L2, s = (n, sl, SH, F2, L2, FR) ∧ a_fr FI F2 FL L2 ∧ ((t < M ∧ t_ck (K t) (W t) = w ∧ s_vw M F2 L2 (t + 1) o) ∨ ((t < M → t_ck (K t) (W t) ≠ w) ∧ s_ft F2)) := by
  have kd := s_kd hq hv
  rcases h with ⟨h1, h⟩ | ⟨h1, h⟩
  · rw [ha] at h1
    obtain ⟨v1, n1, sl1, SH1, FI1, FL1, FR1, hc, -, rfl⟩ := h
    rcases kd with ⟨k1, k2, -⟩ | ⟨-, -, k2⟩
    · obtain ⟨F2, L2, e, r, q⟩ := s_take hc hq hv k1
      exact ⟨F2, L2, e, r, Or.inl ⟨k1, k2.symm.trans h1, q⟩⟩
    · exfalso
      omega
  · rw [ha] at h1
    obtain ⟨v1, n1, sl1, SH1, FI1, FL1, FR1, hc, -, rfl⟩ := h
    obtain ⟨F2, e, r, q⟩ := s_refuse hc (by decide) hq hv
    refine ⟨F2, FL, e, r, Or.inr ⟨fun ht => ?_, q⟩⟩
    rcases kd with ⟨-, k2, -⟩ | ⟨k1, -, -⟩
    · rw [← k2]; exact h1
    · omega
theorem s_expect_f {a : Int32} {v : Unit} (h : RX4_expect a n sl SH FI FL FR v s) (hf : (FI 110 5).toInt ≠ 0) : s = (n, sl, SH, FI, FL, FR) := by
  rcases h with ⟨h1, h⟩ | ⟨h1, h⟩
  · obtain ⟨v1, n1, sl1, SH1, FI1, FL1, FR1, hc, -, rfl⟩ := h
    exact s_take_f hc hf
  · obtain ⟨v1, n1, sl1, SH1, FI1, FL1, FR1, hc, -, rfl⟩ := h
    exact s_refuse_f hc hf
theorem s_raise {w : Int32} (h : RX4_raise n sl SH FI FL FR w s) (hq : q_tk K W M FI FL) (hv : s_vw M FI FL t o) (h0 : 0 ≤ o) : ∃ F2, s = (n, sl, SH, F2, FL, FR) ∧ a_fr FI F2 FL FL ∧ ((o < 12 ∧ w.toInt = 1 ∧ s_vw M F2 FL t (o + 1)) ∨ (12 ≤ o ∧ w.toInt = 0 ∧ s_ft F2)) := by
  have c12 : ((12 : Int32)).toInt = 12 := by decide
  rcases h with ⟨h1, rfl, rfl⟩ | ⟨h1, h⟩
  · rw [hv.2.2.2.2.2, c12] at h1
    refine ⟨_, rfl, ⟨fun c k hck => h_up_x (fun h => hck ⟨h.1, by omega, by omega⟩), fun _ _ _ => rfl⟩, Or.inl ⟨h1, by decide, ?_, ?_, hv.2.2.1, ?_, hv.2.2.2.2.1, ?_⟩⟩
    · rw [h_up_x (by decide)]; exact hv.1
    · rw [h_up_x (by decide)]; exact hv.2.1
    · rw [h_up_x (by decide), h_up_nc (by decide)]; exact hv.2.2.2.1
    · rw [h_up_eq, i_add hv.2.2.2.2.2 (by decide : ((1 : Int32)).toInt = 1) (by omega) (by omega)]
  · rw [hv.2.2.2.2.2, c12] at h1
    obtain ⟨v1, n1, sl1, SH1, FI1, FL1, FR1, hc, rfl, rfl⟩ := h
    obtain ⟨F2, e, r, q⟩ := s_refuse hc (by decide) hq hv
    exact ⟨F2, e, r, Or.inr ⟨by omega, by decide, q⟩⟩
theorem s_raise_f {w : Int32} (h : RX4_raise n sl SH FI FL FR w s) (hf : (FI 110 5).toInt ≠ 0) : ∃ F2, s = (n, sl, SH, F2, FL, FR) ∧ a_fr FI F2 FL FL ∧ (F2 110 5).toInt ≠ 0 := by
  rcases h with ⟨h1, rfl, rfl⟩ | ⟨h1, h⟩
  · exact ⟨_, rfl, ⟨fun c k hck => h_up_x (fun h => hck ⟨h.1, by omega, by omega⟩), fun _ _ _ => rfl⟩, by rw [h_up_x (by decide)]; exact hf⟩
  · obtain ⟨v1, n1, sl1, SH1, FI1, FL1, FR1, hc, rfl, rfl⟩ := h
    exact ⟨FI, s_refuse_f hc hf, a_rf, hf⟩
end SP
