/-! What the reference looks at: tokens by K, W. -/
def p_tk (K W : Nat → Int) (FI : Nat → Nat → Int32) (FL : Nat → Nat → Int64) (t : Nat) : Prop := kf (FI 149) = K ∧ wf (FL 150) = W ∧ FI 121 68 = Int32.ofNat t ∧ t ≤ 2000
section PT
variable {K W : Nat → Int} {n sl : Nat} {SH : Nat → Nat × Nat} {FI : Nat → Nat → Int32} {FL : Nat → Nat → Int64} {FR : Nat → Nat → Option Nat} {t : Nat}
theorem tk_n (h : p_tk K W FI FL t) : (FI 121 68).toInt = t := by
  have := h.2.2.2
  rw [h.2.2.1, i_lit (by omega)]
theorem tk_i (h : p_tk K W FI FL t) : (FI 121 68).toInt.toNat = t := by
  have := tk_n h
  omega
theorem tk_n1 (h : p_tk K W FI FL t) : ((FI 121 68) + ((1 : Int32))).toInt = ((t + 1 : Nat) : Int) := by
  have := h.2.2.2
  rw [i_add (tk_n h) (by decide : ((1 : Int32)).toInt = 1) (by omega) (by omega)]
  omega
theorem tk_i1 (h : p_tk K W FI FL t) : ((FI 121 68) + ((1 : Int32))).toInt.toNat = t + 1 := by
  have := tk_n1 h
  omega
theorem tk_K (h : p_tk K W FI FL t) (i : Nat) : (FI 149 i).toInt = K i := by rw [← h.1]; rfl
theorem tk_W (h : p_tk K W FI FL t) (i : Nat) : (FL 150 i).toInt = W i := by rw [← h.2.1]; rfl
theorem tk_sign {a : Int32} {A : Int} (h : p_tk K W FI FL t) (ha : a.toInt = A) : (fX12_isSign a SH FI FL FR).toInt = 0 ↔ ¬ (K t = 5 ∧ W t = A) := by
  have c5 : ((5 : Int32)).toInt = 5 := by decide
  unfold fX12_isSign
  rw [tk_i h, tk_K h, tk_W h, c5, Int32.toInt_toInt64, ha]
  by_cases h1 : K t = 5
  · by_cases h2 : W t = A
    · simp only [h1, h2, if_true, and_self, not_true, iff_false]; decide
    · simp only [h1, h2, if_true, if_false, and_false, not_false_eq_true, iff_true]; decide
  · simp only [h1, if_false, false_and, not_false_eq_true, iff_true]; decide
theorem tk_word {a : Int32} {A : Int} (h : p_tk K W FI FL t) (ha : a.toInt = A) : (fX12_isWord a SH FI FL FR).toInt = 0 ↔ ¬ (K t = 2 ∧ W t = A) := by
  have c5 : ((2 : Int32)).toInt = 2 := by decide
  unfold fX12_isWord
  rw [tk_i h, tk_K h, tk_W h, c5, Int32.toInt_toInt64, ha]
  by_cases h1 : K t = 2
  · by_cases h2 : W t = A
    · simp only [h1, h2, if_true, and_self, not_true, iff_false]; decide
    · simp only [h1, h2, if_true, if_false, and_false, not_false_eq_true, iff_true]; decide
  · simp only [h1, if_false, false_and, not_false_eq_true, iff_true]; decide
theorem tk_mul {k : Int32} {w : Int64} : (fX12_multiplies k w SH FI FL FR).toInt = if au_bn k.toInt w.toInt = 7 then lc_op k.toInt w.toInt else -1 := by
  have c5 : ((5 : Int32)).toInt = 5 := by decide
  have c2 : ((2 : Int32)).toInt = 2 := by decide
  have c42 : ((42 : Int64)).toInt = 42 := by decide
  have c8 : ((8 : Int64)).toInt = 8 := by decide
  have c9 : ((9 : Int64)).toInt = 9 := by decide
  unfold fX12_multiplies lc_op
  rw [c5, c2, c42, c8, c9]
  simp only [au_bn_7]
  by_cases a1 : k.toInt = 5
  · by_cases a2 : w.toInt = 42
    · simp [a1, a2]
    · simp [a1, a2]
  · by_cases a3 : k.toInt = 2
    · by_cases a4 : w.toInt = 8
      · simp [a3, a4]
      · by_cases a5 : w.toInt = 9
        · simp [a3, a5]
        · simp [a3, a4, a5]
    · simp [a1, a3]
theorem tk_cmp {k : Int32} {w : Int64} : (fX12_compares k w SH FI FL FR).toInt = if au_bn k.toInt w.toInt = 4 then lc_op k.toInt w.toInt else -1 := by
  have c5 : ((5 : Int32)).toInt = 5 := by decide
  have d1 : ((257 : Int32).toInt64).toInt = 257 := by decide
  have d2 : ((258 : Int32).toInt64).toInt = 258 := by decide
  have d3 : ((60 : Int64)).toInt = 60 := by decide
  have d4 : ((259 : Int32).toInt64).toInt = 259 := by decide
  have d5 : ((62 : Int64)).toInt = 62 := by decide
  have d6 : ((260 : Int32).toInt64).toInt = 260 := by decide
  have d7 : ((257 : Int64)).toInt = 257 := by decide
  have d8 : ((258 : Int64)).toInt = 258 := by decide
  have d9 : ((259 : Int64)).toInt = 259 := by decide
  have d0 : ((260 : Int64)).toInt = 260 := by decide
  unfold fX12_compares lc_op
  simp only [c5, d1, d2, d3, d4, d5, d6, d7, d8, d9, d0, au_bn_4]
  by_cases a1 : k.toInt = 5
  · by_cases a2 : w.toInt = 257
    · simp [a1, a2]
    · by_cases a3 : w.toInt = 258
      · simp [a1, a3]
      · by_cases a4 : w.toInt = 60
        · simp [a1, a4]
        · by_cases a5 : w.toInt = 259
          · simp [a1, a5]
          · by_cases a6 : w.toInt = 62
            · simp [a1, a6]
            · by_cases a7 : w.toInt = 260
              · simp [a1, a7]
              · simp [a1, a2, a3, a4, a5, a6, a7]
  · simp [a1]
theorem tk_shf {k : Int32} {w : Int64} : (fX12_shifts k w SH FI FL FR).toInt = if au_bn k.toInt w.toInt = 5 then lc_op k.toInt w.toInt else -1 := by
  have c5 : ((5 : Int32)).toInt = 5 := by decide
  have d1 : ((261 : Int64)).toInt = 261 := by decide
  have d2 : ((262 : Int64)).toInt = 262 := by decide
  have d3 : ((263 : Int64)).toInt = 263 := by decide
  unfold fX12_shifts lc_op
  simp only [c5, d1, d2, d3, au_bn_5]
  by_cases a1 : k.toInt = 5
  · by_cases a2 : w.toInt = 261
    · simp [a1, a2]
    · by_cases a3 : w.toInt = 262
      · simp [a1, a3]
      · by_cases a4 : w.toInt = 263
        · simp [a1, a4]
        · simp [a1, a2, a3, a4]
  · simp [a1]
theorem tk_adds {i : Int32} {j : Nat} (h : p_tk K W FI FL t) (hi : i.toInt = j) : (fX12_adds i SH FI FL FR).toInt = 0 ↔ ¬ (K j = 5 ∧ (W j = 43 ∨ W j = 45)) := by
  have c5 : ((5 : Int32)).toInt = 5 := by decide
  have d1 : ((43 : Int64)).toInt = 43 := by decide
  have d2 : ((45 : Int64)).toInt = 45 := by decide
  have hj : i.toInt.toNat = j := by omega
  unfold fX12_adds
  rw [hj, tk_K h, tk_W h, c5, d1, d2]
  by_cases a1 : K j = 5
  · by_cases a2 : W j = 43
    · simp [a1, a2]
    · by_cases a3 : W j = 45
      · simp [a1, a3]
      · simp [a1, a2, a3]
  · simp [a1]
theorem tk_alone {i : Int32} {j : Nat} (h : p_tk K W FI FL t) (hi : i.toInt = j) (hb : j ≤ 4000) : (fX12_isAlone i SH FI FL FR).toInt = 0 ↔ lc_al K W j = false := by
  have c3 : ((3 : Int32)).toInt = 3 := by decide
  have c1 : ((-1 : Int32)).toInt = -1 := by decide
  have hj : i.toInt.toNat = j := by omega
  have hj1 : (i + (1 : Int32)).toInt.toNat = j + 1 := by
    rw [i_add hi (by decide : ((1 : Int32)).toInt = 1) (by omega) (by omega)]; omega
  unfold fX12_isAlone lc_al
  rw [hj, hj1, tk_mul, tk_K h, tk_K h, tk_W h, c3, c1]
  by_cases a1 : K j = 3
  · by_cases a2 : au_bn (K (j + 1)) (W (j + 1)) = 7
    · have hne : lc_op (K (j + 1)) (W (j + 1)) ≠ -1 := by
        rcases au_bn_7.mp a2 with ⟨e1, e2⟩ | ⟨e1, e2 | e2⟩ <;> rw [e1, e2] <;> decide
      simp [a1, a2, hne]
    · simp [a1, a2]
  · simp [a1]
end PT
/-! The view of the whole walk. -/
def p_vw (K W : Nat → Int) (o0 : Int) (FI : Nat → Nat → Int32) (FL : Nat → Nat → Int64) (t : Nat) (S : List f_E) (o : Int) (B : List Int) : Prop := p_tk K W FI FL t ∧ (FI 121 69).toInt = 0 ∧ r_vw FI S B ∧ o_vw FI o0 S o
/-- what a frame must leave alone -/
def k_pv (m : k_M) : Bool := k_no m 149 && k_no (m.2.2.1, m.2.2.2, [], []) 150 && !k_in m.1 m.2.1 121 68 && !k_in m.1 m.2.1 121 69 && !k_in m.1 m.2.1 121 71 && !k_in m.1 m.2.1 121 90 && (k_no m 165 && k_no m 166 && k_no m 167 && k_no m 168)
section PV
variable {K W : Nat → Int} {o0 : Int} {n sl : Nat} {SH : Nat → Nat × Nat} {FI : Nat → Nat → Int32} {FL : Nat → Nat → Int64} {FR : Nat → Nat → Option Nat} {t : Nat} {S : List f_E} {o : Int} {B : List Int}
theorem p_em {m : k_M} {a b : hS} {c : List Int} (h : p_vw K W o0 a.2.2.2.1 a.2.2.2.2.1 t S o B) (hk : kq m a b) (he : e_ap a.2.2.2.1 b.2.2.2.1 c) (hm : k_pv m = true) : p_vw K W o0 b.2.2.2.1 b.2.2.2.2.1 t S o (B ++ c) := by
  unfold k_pv at hm
  simp only [Bool.and_eq_true, Bool.not_eq_true'] at hm
  obtain ⟨⟨⟨⟨⟨⟨m1, m2⟩, m3⟩, m4⟩, m5⟩, m6⟩, m7⟩ := hm
  obtain ⟨⟨h1, h2, h3, h4⟩, h5, h6, h7⟩ := h
  refine ⟨⟨by rw [kq_cell hk m1]; exact h1, by rw [kq_fl hk m2]; exact h2, by rw [kq_fld hk m3]; exact h3, h4⟩, by rw [kq_fld hk m4]; exact h5, r_em h6 hk he m6 (by simp only [Bool.and_eq_true]; exact m7), by rw [kq_fld hk m5]; exact h7.1, h7.2⟩
theorem p_tk_f {k : Nat} {x : Int32} (h : p_tk K W FI FL t) (h1 : k ≠ 68) : p_tk K W (h_up FI 121 k x) FL t := ⟨by rw [h_up_nc (by decide)]; exact h.1, h.2.1, by rw [h_up_x (by rintro ⟨-, e⟩; exact h1 e.symm)]; exact h.2.2.1, h.2.2.2⟩
theorem p_fl {k : Nat} {x : Int32} (h : p_vw K W o0 FI FL t S o B) (h1 : k ≠ 68) (h2 : k ≠ 69) (h3 : k ≠ 71) (h4 : k ≠ 73) (h5 : k ≠ 90) : p_vw K W o0 (h_up FI 121 k x) FL t S o B := ⟨p_tk_f h.1 h1, by rw [h_up_x (by rintro ⟨-, e⟩; exact h2 e.symm)]; exact h.2.1, r_fl h.2.2.1 h4 h5, by rw [h_up_x (by rintro ⟨-, e⟩; exact h3 e.symm)]; exact h.2.2.2.1, h.2.2.2.2⟩
theorem p_ti {x : Int32} {t1 : Nat} (h : p_vw K W o0 FI FL t S o B) (hx : x.toInt = t1) (ht : t1 ≤ 2000) : p_vw K W o0 (h_up FI 121 68 x) FL t1 S o B := by
  refine ⟨⟨by rw [h_up_nc (by decide)]; exact h.1.1, h.1.2.1, ?_, ht⟩, by rw [h_up_x (by decide)]; exact h.2.1, r_fl h.2.2.1 (by decide) (by decide), by rw [h_up_x (by decide)]; exact h.2.2.2.1, h.2.2.2.2⟩
  rw [h_up_eq]
  exact i_eqv (by rw [hx, i_lit (by omega)])
theorem p_fin {v : Unit} {s : hS} (h : RX12_finished n sl SH FI FL FR v s) (hp : p_vw K W o0 FI FL t S o B) : p_vw K W o0 s.2.2.2.1 s.2.2.2.2.1 t (f_fin S o B).1 (f_fin S o B).2.1 (f_fin S o B).2.2 ∧ f_top (f_fin S o B).1 ≠ 9 := by
  have hk := kX12_finished h
  obtain ⟨g, h⟩ := h
  obtain ⟨q1, q2, q3⟩ := rs_finished g n sl SH FI FL FR v s S o0 o B h hp.2.2.1 hp.2.2.2
  exact ⟨⟨⟨by rw [kq_cell hk (by decide)]; exact hp.1.1, by rw [kq_fl hk (by decide)]; exact hp.1.2.1, by rw [kq_fld hk (by decide)]; exact hp.1.2.2.1, hp.1.2.2.2⟩, by rw [kq_fld hk (by decide)]; exact hp.2.1, q1, q2⟩, q3⟩
theorem p_red {b : Int32} {c : Int} {v : Unit} {s : hS} (h : RX12_reduced b n sl SH FI FL FR v s) (hb : b.toInt = c) (hc : 1 ≤ c) (hp : p_vw K W o0 FI FL t S o B) (h9 : f_top S ≠ 9) : p_vw K W o0 s.2.2.2.1 s.2.2.2.2.1 t (f_pop c S B).1 o (f_pop c S B).2 ∧ f_top (f_pop c S B).1 ≠ 9 ∧ f_top (f_pop c S B).1 < c := by
  have hk := kX12_reduced h
  obtain ⟨g, h⟩ := h
  subst hb
  obtain ⟨q1, q2, q3, q4⟩ := rs_reduced hc g n sl SH FI FL FR v s S o0 o B h hp.2.2.1 hp.2.2.2 h9
  exact ⟨⟨⟨by rw [kq_cell hk (by decide)]; exact hp.1.1, by rw [kq_fl hk (by decide)]; exact hp.1.2.1, by rw [kq_fld hk (by decide)]; exact hp.1.2.2.1, hp.1.2.2.2⟩, by rw [kq_fld hk (by decide)]; exact hp.2.1, q1, q2⟩, q3, q4⟩
theorem p_all {v : Unit} {s : hS} (h : RX12_reducedAll n sl SH FI FL FR v s) (hp : p_vw K W o0 FI FL t S o B) (h9 : f_top S ≠ 9) : p_vw K W o0 s.2.2.2.1 s.2.2.2.2.1 t (f_all S o B).1 (f_all S o B).2.1 (f_all S o B).2.2 ∧ f_top (f_all S o B).1 < 1 ∧ f_top (f_all S o B).1 ≠ -3 := by
  have hk := kX12_reducedAll h
  obtain ⟨q1, q2, q3⟩ := rs_reducedAll h hp.2.2.1 hp.2.2.2 h9
  exact ⟨⟨⟨by rw [kq_cell hk (by decide)]; exact hp.1.1, by rw [kq_fl hk (by decide)]; exact hp.1.2.1, by rw [kq_fld hk (by decide)]; exact hp.1.2.2.1, hp.1.2.2.2⟩, by rw [kq_fld hk (by decide)]; exact hp.2.1, q1, q2⟩, q3⟩
theorem f_fault {k : Int32} {v : Unit} {s : hS} (h : RX12_fail k n sl SH FI FL FR v s) (hk : k.toInt ≠ 0) : (s.2.2.2.1 121 69).toInt ≠ 0 := by
  rcases h with ⟨h0, h⟩ | ⟨h0, h⟩
  · obtain ⟨-, -, rfl⟩ := h
    try dsimp only
    rw [h_up_x (by decide), h_up_eq]
    exact hk
  · obtain ⟨-, rfl⟩ := h
    exact h0
/-- opens: refused at the thirteenth, or one more is open and the next token stands -/
theorem p_opens {v : Unit} {s : hS} (h : RX12_opens n sl SH FI FL FR v s) (ht : p_tk K W FI FL t) (ht2 : t + 1 ≤ 2000) (ho : (FI 121 71).toInt = o) (ho2 : o ≤ 12) (ho3 : 0 ≤ o) : (o = 12 ∧ (s.2.2.2.1 121 69).toInt ≠ 0) ∨ (o < 12 ∧ s = (n, sl, SH, h_up (h_up FI 121 71 (FI 121 71 + 1)) 121 68 (FI 121 68 + 1), FL, FR)) := by
  have c12 : ((12 : Int32)).toInt = 12 := by decide
  rcases h with ⟨h1, h⟩ | ⟨h1, h⟩
  · obtain ⟨v1, n1, sl1, SH1, FI1, FL1, FR1, hc, h⟩ := h
    obtain ⟨-, rfl⟩ := h
    refine Or.inl ⟨by omega, ?_⟩
    try dsimp only
    rw [h_up_x (by decide), h_up_x (by decide)]
    exact f_fault hc (by decide)
  · obtain ⟨-, rfl⟩ := h
    exact Or.inr ⟨by omega, rfl⟩
/-- opens and later: one more waits -/
theorem p_openlater {c b : Int32} {y : List Int} {v1 v2 : Unit} {n1 sl1 : Nat} {SH1 : Nat → Nat × Nat} {FI1 : Nat → Nat → Int32} {FL1 : Nat → Nat → Int64} {FR1 : Nat → Nat → Option Nat} {s : hS} (hS : h_S n SH) (h1 : RX12_opens n sl SH FI FL FR v1 (n1, sl1, SH1, FI1, FL1, FR1)) (h2 : RX12_later c b n1 sl1 SH1 FI1 FL1 FR1 v2 s) (hp : p_vw K W o0 FI FL t S o B) (ht : t < 1002) (hb : b.toInt = 9 ∨ b.toInt = -1) (hy : 1 ≤ b.toInt → y = w_by c.toInt ∧ 0 ≤ c.toInt ∧ c.toInt < 512 ∧ (b.toInt ≠ 9 → c.toInt < 256)) : (12 ≤ o ∧ (s.2.2.2.1 121 69).toInt ≠ 0) ∨ (¬ 12 ≤ o ∧ p_vw K W o0 s.2.2.2.1 s.2.2.2.2.1 (t + 1) ((b.toInt, y, 0, 0) :: S) (o + 1) B) := by
  have hk := kX12_later h2
  have ho := hp.2.2.2
  have hop := f_op_0 S
  rcases p_opens h1 hp.1 (by omega) ho.1 ho.2.2.2 (by have := ho.2.1; have := ho.2.2.1; omega) with ⟨g1, g2⟩ | ⟨g1, g2⟩
  · refine Or.inl ⟨by omega, ?_⟩
    rw [kq_fld hk (by decide)]
    exact g2
  · cases g2
    refine Or.inr ⟨by omega, ?_⟩
    obtain ⟨g3, g4, -, rfl⟩ := h2
    have hr := r_fl (k := 68) (x := FI 121 68 + 1) (r_fl (k := 71) (x := FI 121 71 + 1) hp.2.2.1 (by decide) (by decide)) (by decide) (by decide)
    have hlt : S.length < 256 := by
      have e := r_vw_n hr
      have g5 := g3.2
      rw [s165 hS] at g5
      have : (((256 : Nat)) : Int) = 256 := rfl
      omega
    have hq := r_push (c := c) (b := b) (p := 0) (q := 0) (y := y) hr hlt (by rcases hb with h | h; exact Or.inl h; exact Or.inr (Or.inl h)) hy
    refine ⟨⟨?_, hp.1.2.1, ?_, by omega⟩, ?_, hq, ?_⟩
    · try dsimp only
      rw [h_up_nc (by decide), h_up_nc (by decide), h_up_nc (by decide), h_up_nc (by decide), h_up_nc (by decide)]
      exact hp.1.1
    · try dsimp only
      rw [h_up_x (by decide), h_up_nc (by decide), h_up_nc (by decide), h_up_eq]
      exact i_eqv (by rw [tk_n1 hp.1, i_lit (by omega)])
    · try dsimp only
      rw [h_up_x (by decide), h_up_nc (by decide), h_up_nc (by decide), h_up_x (by decide), h_up_x (by decide)]
      exact hp.2.1
    · refine ⟨?_, ?_, ho.2.2.1, by omega⟩
      · try dsimp only
        rw [h_up_x (by decide), h_up_nc (by decide), h_up_nc (by decide), h_up_x (by decide), h_up_eq]
        rw [i_add ho.1 (by decide : ((1 : Int32)).toInt = 1) (by have := ho.2.1; have := ho.2.2.1; omega) (by omega)]
      · rw [f_op, if_neg (by show ¬ (1 ≤ b.toInt ∧ b.toInt ≤ 7); omega)]
        have := ho.2.1
        omega
end PV
