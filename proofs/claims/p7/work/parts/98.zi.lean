section
/-! THE CLASS'S TOKENS beside the reference's: what its kinds say. -/
/-- a token that is one (or the end) -/
def k_rg (k w : Int) : Prop := k = 0 ∨ k = 1 ∨ (k = 2 ∧ 0 ≤ w ∧ w ≤ 9) ∨ k = 3 ∨ k = 4 ∨ (k = 5 ∧ ((37 ≤ w ∧ w ≤ 126) ∨ (256 ≤ w ∧ w ≤ 263)))
def n_lv (a : Int) : Int := if a = 15 ∨ a = 16 ∨ a = 42 then 6 else if a = 18 ∨ a = 19 ∨ a = 20 ∨ a = 21 ∨ a = 60 ∨ a = 62 then 3 else if a = 22 ∨ a = 23 ∨ a = 24 then 4 else if a = 38 then 2 else if a = 43 ∨ a = 45 then 5 else if a = 94 then 1 else if a = 124 then 0 else -1
/-- the kind's number, case by case -/
theorem ck_e {k w : Int} (h : k_rg k w) : (k = 0 ∧ t_ck k w = 2) ∨ (k = 1 ∧ t_ck k w = 4) ∨ (k = 2 ∧ t_ck k w = w + 7 ∧ 0 ≤ w ∧ w ≤ 9) ∨ (k = 3 ∧ t_ck k w = 5) ∨ (k = 4 ∧ t_ck k w = 6) ∨ (k = 5 ∧ t_ck k w = w ∧ 37 ≤ w ∧ w ≤ 126) ∨ (k = 5 ∧ t_ck k w = w - 239 ∧ 256 ≤ w ∧ w ≤ 263) := by
  unfold t_ck
  rcases h with h | h | ⟨h, h1, h2⟩ | h | h | ⟨h, h1 | h1⟩
  · subst h; exact Or.inl ⟨rfl, rfl⟩
  · subst h; exact Or.inr (Or.inl ⟨rfl, rfl⟩)
  · subst h; exact Or.inr (Or.inr (Or.inl ⟨rfl, rfl, h1, h2⟩))
  · subst h; exact Or.inr (Or.inr (Or.inr (Or.inl ⟨rfl, rfl⟩)))
  · subst h; exact Or.inr (Or.inr (Or.inr (Or.inr (Or.inl ⟨rfl, rfl⟩))))
  · subst h
    refine Or.inr (Or.inr (Or.inr (Or.inr (Or.inr (Or.inl ⟨rfl, ?_, h1⟩)))))
    rw [if_neg (by decide), if_neg (by decide), if_neg (by decide), if_neg (by decide), if_neg (by decide), if_pos rfl, if_neg (by omega)]
  · subst h
    refine Or.inr (Or.inr (Or.inr (Or.inr (Or.inr (Or.inr ⟨rfl, ?_, h1⟩)))))
    rw [if_neg (by decide), if_neg (by decide), if_neg (by decide), if_neg (by decide), if_neg (by decide), if_pos rfl, if_pos (by omega)]
theorem ck_5 : ∀ x : Fin 264, ((37 ≤ x.val ∧ x.val ≤ 126) ∨ 256 ≤ x.val) → n_lv (t_ck 5 (x.val : Int)) + 1 = au_bn 5 (x.val : Int) ∧ (au_bn 5 (x.val : Int) ≠ 0 → n_op (t_ck 5 (x.val : Int)) = lc_op 5 (x.val : Int)) := by decide +kernel
theorem ck_2 : ∀ x : Fin 10, n_lv (t_ck 2 (x.val : Int)) + 1 = au_bn 2 (x.val : Int) ∧ (au_bn 2 (x.val : Int) ≠ 0 → n_op (t_ck 2 (x.val : Int)) = lc_op 2 (x.val : Int)) := by decide +kernel
theorem au_bn_o {k w : Int} (h5 : k ≠ 5) (h2 : k ≠ 2) : au_bn k w = 0 := by
  unfold au_bn
  rw [if_neg (by omega), if_neg (by omega), if_neg (by omega), if_neg (by omega), if_neg (by omega), if_neg (by omega), if_neg (by omega)]
/-- how a sign binds, and its operation -/
theorem ck_lv {k w : Int} (h : k_rg k w) : n_lv (t_ck k w) + 1 = au_bn k w ∧ (au_bn k w ≠ 0 → n_op (t_ck k w) = lc_op k w) := by
  have h0 := h
  rcases h with h | h | ⟨h, h1, h2⟩ | h | h | ⟨h, h1⟩
  · subst h
    rw [au_bn_o (by decide) (by decide)]
    exact ⟨rfl, fun h => absurd rfl h⟩
  · subst h
    rw [au_bn_o (by decide) (by decide)]
    exact ⟨rfl, fun h => absurd rfl h⟩
  · subst h
    have q := ck_2 ⟨w.toNat, by omega⟩
    dsimp only at q
    rw [show ((w.toNat : Nat) : Int) = w by omega] at q
    exact q
  · subst h
    rw [au_bn_o (by decide) (by decide)]
    exact ⟨rfl, fun h => absurd rfl h⟩
  · subst h
    rw [au_bn_o (by decide) (by decide)]
    exact ⟨rfl, fun h => absurd rfl h⟩
  · subst h
    have q := ck_5 ⟨w.toNat, by omega⟩ (by dsimp only; omega)
    dsimp only at q
    rw [show ((w.toNat : Nat) : Int) = w by omega] at q
    exact q
/-- what stands ahead of an operand -/
theorem ck_un {k w : Int} (h : k_rg k w) : (lc_uy k w = true ↔ (t_ck k w = 6 ∨ t_ck k w = 14 ∨ t_ck k w = 45 ∨ t_ck k w = 126)) ∧ (lc_uy k w = true → ∀ v, (k = 4 → v = w) → n_un (t_ck k w) v = lc_un k w) := by
  have e := ck_e h
  have hu : lc_uy k w = true ↔ (k = 4 ∨ (k = 5 ∧ (w = 45 ∨ w = 126)) ∨ (k = 2 ∧ w = 7)) := by
    unfold lc_uy
    rw [decide_eq_true_eq]
  rw [hu]
  refine ⟨by omega, fun hh v hv => ?_⟩
  rcases hh with h1 | ⟨h1, h2 | h2⟩ | ⟨h1, h2⟩
  · have e6 : t_ck k w = 6 := by omega
    rw [e6, hv h1]
    subst h1
    rfl
  · subst h1 h2; rfl
  · subst h1 h2; rfl
  · subst h1 h2; rfl
/-- THE TOKENS up to M, where they end or one is none -/
def q_tk (K W : Nat → Int) (M : Nat) (FI : Nat → Nat → Int32) (FL : Nat → Nat → Int64) : Prop := M ≤ 1000 ∧ (∀ i, i < M → K i ≠ 0 ∧ k_rg (K i) (W i) ∧ (FI 112 i).toInt = t_ck (K i) (W i) ∧ (K i = 3 → (FL 113 i).toInt = W i ∧ 0 ≤ W i ∧ W i ≤ 999999999999999999) ∧ (K i = 4 → (FL 113 i).toInt = W i ∧ 1 ≤ W i ∧ W i ≤ 8)) ∧ ((K M = 0 ∧ (FI 112 M).toInt = 2 ∧ (FI 111 4).toInt = ((M + 1 : Nat) : Int)) ∨ (K M = 6 ∧ (((FI 112 M).toInt = 3 ∧ (FI 111 4).toInt = ((M + 1 : Nat) : Int)) ∨ ((FI 112 M).toInt = 4 ∧ ((M + 2 : Nat) : Int) ≤ (FI 111 4).toInt ∧ (FI 112 (M + 1)).toInt ≠ 61))))
section QT
variable {X : Nat → Int} {N : Nat} {K W : Nat → Int}
/-- out of what the reader keeps -/
theorem y_ok_q {F : Nat → Nat → Int32} {L : Nat → Nat → Int64} (hN : N ≤ 1000) : ∀ (l : List (Int × Int × Nat)) (j : Nat), y_ok X N F L l j → (∀ i x, l[i]? = some x → K (j + i) = x.1 ∧ W (j + i) = x.2.1 ∧ (x.1 ≠ 0 → x.2.2 < N ∧ x.1 = (t_tk X N x.2.2).1 ∧ x.2.1 = (t_tk X N x.2.2).2.1)) → j + l.length ≤ 1001 → ∃ M, j ≤ M ∧ M < j + l.length ∧ (∀ i, j ≤ i → i < M → K i ≠ 0 ∧ k_rg (K i) (W i) ∧ (F 112 i).toInt = t_ck (K i) (W i) ∧ (K i = 3 → (L 113 i).toInt = W i ∧ 0 ≤ W i ∧ W i ≤ 999999999999999999) ∧ (K i = 4 → (L 113 i).toInt = W i ∧ 1 ≤ W i ∧ W i ≤ 8)) ∧ ((K M = 0 ∧ (F 112 M).toInt = 2 ∧ (F 111 4).toInt = ((M + 1 : Nat) : Int)) ∨ (K M = 6 ∧ (((F 112 M).toInt = 3 ∧ (F 111 4).toInt = ((M + 1 : Nat) : Int)) ∨ ((F 112 M).toInt = 4 ∧ ((M + 2 : Nat) : Int) ≤ (F 111 4).toInt ∧ (F 112 (M + 1)).toInt ≠ 61)))) := by
  intro l
  induction l with
  | nil => intro j h; exact h.elim
  | cons x l ih =>
    intro j h hK hl
    rw [List.length_cons] at hl ⊢
    have k0 := hK 0 x rfl
    rw [Nat.add_zero] at k0
    rw [y_ok] at h
    obtain ⟨-, h | h | h⟩ := h
    · exact ⟨j, Nat.le_refl _, by omega, fun i h1 h2 => by omega, Or.inl ⟨k0.1.trans h.1, h.2⟩⟩
    · obtain ⟨h0, h6, hk, -, hw, h⟩ := h
      obtain ⟨M, m1, m2, m3, m4⟩ := ih (j + 1) h (fun i y hy => by
        have := hK (i + 1) y hy
        rw [show j + (i + 1) = j + 1 + i by omega] at this
        exact this) (by omega)
      refine ⟨M, by omega, by omega, fun i h1 h2 => ?_, m4⟩
      by_cases e : i = j
      · subst e
        have p := k0.2.2 h0
        have kw := t_tk_kw (X := X) p.1 hN
        have tk := t_tk_ok (X := X) p.1 hN
        rw [← p.2.1, ← p.2.2] at kw tk
        rw [k0.1, k0.2.1]
        refine ⟨h0, ?_, hk, fun h3 => ⟨hw (Or.inl h3), (tk.2.1 h3).1⟩, fun h4 => ⟨hw (Or.inr h4), (tk.2.2.1 h4).1⟩⟩
        rcases kw with kw | kw | kw | kw | kw | kw
        · exact Or.inr (Or.inl kw.1)
        · exact Or.inr (Or.inr (Or.inl kw))
        · exact Or.inr (Or.inr (Or.inr (Or.inl kw)))
        · exact Or.inr (Or.inr (Or.inr (Or.inr (Or.inl kw))))
        · exact Or.inr (Or.inr (Or.inr (Or.inr (Or.inr kw))))
        · exact absurd kw h6
      · exact m3 i (by omega) h2
    · exact ⟨j, Nat.le_refl _, by omega, fun i h1 h2 => by omega, Or.inr ⟨k0.1.trans h.1, h.2⟩⟩
end QT
end
section
/-! THE CLASS'S PARSER: take, refuse, expect, raise. -/
section SP
variable {K W : Nat → Int} {M : Nat} {n sl : Nat} {SH : Nat → Nat × Nat} {FI : Nat → Nat → Int32} {FL : Nat → Nat → Int64} {FR : Nat → Nat → Option Nat} {t : Nat} {o : Int} {s : hS}
theorem c_lv {a : Int32} : (fX4_levelOf a SH FI FL FR).toInt = n_lv a.toInt := by
  unfold fX4_levelOf n_lv
  rw [i_ite, i_ite, i_ite, i_ite, i_ite, i_ite, i_ite]
  rfl
/-- no fault: at token t, o open -/
def s_vw (M : Nat) (FI : Nat → Nat → Int32) (FL : Nat → Nat → Int64) (t : Nat) (o : Int) : Prop := (FI 110 5).toInt = 0 ∧ (FI 110 7).toInt = t ∧ t ≤ M ∧ FI 110 8 = FI 112 t ∧ FL 110 9 = FL 113 t ∧ (FI 110 4).toInt = o
/-- a fault -/
def s_ft (F : Nat → Nat → Int32) : Prop := (F 110 5).toInt ≠ 0 ∧ (F 110 8).toInt = 1
/-- what the parser's first methods change -/
def a_fr (FI F2 : Nat → Nat → Int32) (FL L2 : Nat → Nat → Int64) : Prop := (∀ c k, ¬ (c = 110 ∧ 4 ≤ k ∧ k ≤ 8) → F2 c k = FI c k) ∧ (∀ c k, ¬ (c = 110 ∧ k = 9) → L2 c k = FL c k)
theorem a_rf : a_fr FI FI FL FL := ⟨fun _ _ _ => rfl, fun _ _ _ => rfl⟩
theorem a_t {F2 F3 : Nat → Nat → Int32} {L2 L3 : Nat → Nat → Int64} (h : a_fr FI F2 FL L2) (h2 : a_fr F2 F3 L2 L3) : a_fr FI F3 FL L3 := ⟨fun c k g => (h2.1 c k g).trans (h.1 c k g), fun c k g => (h2.2 c k g).trans (h.2 c k g)⟩
theorem q_fr {F2 : Nat → Nat → Int32} {L2 : Nat → Nat → Int64} (hq : q_tk K W M FI FL) (h : F2 112 = FI 112 ∧ F2 111 4 = FI 111 4 ∧ L2 113 = FL 113) : q_tk K W M F2 L2 := by
  unfold q_tk
  rw [h.1, h.2.1, h.2.2]
  exact hq
theorem q_a {F2 : Nat → Nat → Int32} {L2 : Nat → Nat → Int64} (hq : q_tk K W M FI FL) (h : a_fr FI F2 FL L2) : q_tk K W M F2 L2 := q_fr hq ⟨by funext k; exact h.1 112 k (by omega), h.1 111 4 (by omega), by funext k; exact h.2 113 k (by omega)⟩
theorem s_cnt (hq : q_tk K W M FI FL) : ((M + 1 : Nat) : Int) ≤ (FI 111 4).toInt := by
  rcases hq.2.2 with h | ⟨-, h | h⟩ <;> omega
/-- the kind in hand -/
theorem s_kd (hq : q_tk K W M FI FL) (hv : s_vw M FI FL t o) : (t < M ∧ (FI 110 8).toInt = t_ck (K t) (W t) ∧ K t ≠ 0 ∧ k_rg (K t) (W t) ∧ (K t = 3 → (FL 110 9).toInt = W t ∧ 0 ≤ W t ∧ W t ≤ 999999999999999999) ∧ (K t = 4 → (FL 110 9).toInt = W t ∧ 1 ≤ W t ∧ W t ≤ 8)) ∨ (t = M ∧ (K t = 0 ∨ K t = 6) ∧ ((FI 110 8).toInt = 2 ∨ (FI 110 8).toInt = 3 ∨ (FI 110 8).toInt = 4)) := by
  rcases Nat.lt_or_ge t M with h | h
  · have q := hq.2.1 t h
    refine Or.inl ⟨h, ?_, q.1, q.2.1, ?_, ?_⟩
    · rw [hv.2.2.2.1]; exact q.2.2.1
    · rw [hv.2.2.2.2.1]; exact q.2.2.2.1
    · rw [hv.2.2.2.2.1]; exact q.2.2.2.2
  · have e : t = M := by have := hv.2.2.1; omega
    subst e
    rw [hv.2.2.2.1]
    refine Or.inr ⟨rfl, ?_⟩
    rcases hq.2.2 with h | ⟨h1, h | h⟩
    · exact ⟨Or.inl h.1, Or.inl h.2.1⟩
    · exact ⟨Or.inr h1, Or.inr (Or.inl h.1)⟩
    · exact ⟨Or.inr h1, Or.inr (Or.inr h.1)⟩
theorem s_take {v : Unit} (h : RX4_take n sl SH FI FL FR v s) (hq : q_tk K W M FI FL) (hv : s_vw M FI FL t o) (ht : t < M) : ∃ F2 L2, s = (n, sl, SH, F2, L2, FR) ∧ a_fr FI F2 FL L2 ∧ s_vw M F2 L2 (t + 1) o := by
  have hM := hq.1
  rcases h with ⟨h1, h⟩ | ⟨h1, h⟩
  · have e1 : ((FI 110 7) + (1 : Int32)).toInt = ((t + 1 : Nat) : Int) := by rw [i_add hv.2.1 (by decide : ((1 : Int32)).toInt = 1) (by omega) (by omega)]; omega
    have en : ((FI 110 7) + (1 : Int32)).toInt.toNat = t + 1 := by omega
    rcases h with ⟨h2, -, -, -, rfl⟩ | ⟨h2, -⟩
    · rw [en]
      refine ⟨_, _, rfl, ⟨fun c k hck => ?_, fun c k hck => h_up_x hck⟩, ?_, ?_, ht, ?_, ?_, ?_⟩
      · rw [h_up_x (fun h => hck ⟨h.1, by omega, by omega⟩), h_up_x (fun h => hck ⟨h.1, by omega, by omega⟩)]
      · rw [h_up_x (by decide), h_up_x (by decide)]; exact hv.1
      · rw [h_up_x (by decide), h_up_eq]; exact e1
      · rw [h_up_eq, h_up_nc (by decide), h_up_nc (by decide)]
      · rw [h_up_eq, h_up_nc (by decide)]
      · rw [h_up_x (by decide), h_up_x (by decide)]; exact hv.2.2.2.2.2
    · exfalso
      rw [e1] at h2
      have := s_cnt hq
      omega
  · exact absurd hv.1 h1
theorem s_take_f {v : Unit} (h : RX4_take n sl SH FI FL FR v s) (hf : (FI 110 5).toInt ≠ 0) : s = (n, sl, SH, FI, FL, FR) := by
  rcases h with ⟨h1, -⟩ | ⟨-, -, h⟩
  · exact absurd h1 hf
  · exact h
theorem s_refuse {a : Int32} {v : Unit} (h : RX4_refuse a n sl SH FI FL FR v s) (ha : a.toInt ≠ 0) (hq : q_tk K W M FI FL) (hv : s_vw M FI FL t o) : ∃ F2, s = (n, sl, SH, F2, FL, FR) ∧ a_fr FI F2 FL FL ∧ s_ft F2 := by
  rcases h with ⟨h1, h⟩ | ⟨h1, -⟩
  · rcases h with ⟨h2, -⟩ | ⟨h2, h⟩
    · exfalso
      rw [hv.2.1] at h2
      omega
    · rcases h with ⟨h3, -, -, rfl⟩ | ⟨h3, -⟩
      · refine ⟨_, rfl, ⟨fun c k hck => ?_, fun _ _ _ => rfl⟩, ?_⟩
        · rw [h_up_x (fun h => hck ⟨h.1, by omega, by omega⟩), h_up_x (fun h => hck ⟨h.1, by omega, by omega⟩), h_up_x (fun h => hck ⟨h.1, by omega, by omega⟩)]
        · exact ⟨by rw [h_up_x (by decide), h_up_x (by decide), h_up_eq]; exact ha, by rw [h_up_eq]; decide⟩
      · exfalso
        rw [hv.2.1] at h3
        have := s_cnt hq
        have := hv.2.2.1
        omega
  · exact absurd hv.1 h1
theorem s_refuse_f {a : Int32} {v : Unit} (h : RX4_refuse a n sl SH FI FL FR v s) (hf : (FI 110 5).toInt ≠ 0) : s = (n, sl, SH, FI, FL, FR) := by
  rcases h with ⟨h1, -⟩ | ⟨-, -, h⟩
  · exact absurd h1 hf
  · exact h
theorem s_expect {a : Int32} {w : Int} {v : Unit} (h : RX4_expect a n sl SH FI FL FR v s) (ha : a.toInt = w) (hw : w ≠ 2 ∧ w ≠ 3 ∧ w ≠ 4) (hq : q_tk K W M FI FL) (hv : s_vw M FI FL t o) : ∃ F2 L2, s = (n, sl, SH, F2, L2, FR) ∧ a_fr FI F2 FL L2 ∧ ((t < M ∧ t_ck (K t) (W t) = w ∧ s_vw M F2 L2 (t + 1) o) ∨ ((t < M → t_ck (K t) (W t) ≠ w) ∧ s_ft F2)) := by
  have kd := s_kd hq hv
  rcases h with ⟨h1, h⟩ | ⟨h1, h⟩
  · rw [ha] at h1
    obtain ⟨v1, n1, sl1, SH1, FI1, FL1, FR1, hc, -, rfl⟩ := h
    rcases kd with ⟨k1, k2, -⟩ | ⟨-, -, k2⟩
    · obtain ⟨F2, L2, e, r, q⟩ := s_take hc hq hv k1
      exact ⟨F2, L2, e, r, Or.inl ⟨k1, k2.symm.trans h1, q⟩⟩
    · exfalso
      omega
  · rw [ha] at h1
    obtain ⟨v1, n1, sl1, SH1, FI1, FL1, FR1, hc, -, rfl⟩ := h
    obtain ⟨F2, e, r, q⟩ := s_refuse hc (by decide) hq hv
    refine ⟨F2, FL, e, r, Or.inr ⟨fun ht => ?_, q⟩⟩
    rcases kd with ⟨-, k2, -⟩ | ⟨k1, -, -⟩
    · rw [← k2]; exact h1
    · omega
theorem s_expect_f {a : Int32} {v : Unit} (h : RX4_expect a n sl SH FI FL FR v s) (hf : (FI 110 5).toInt ≠ 0) : s = (n, sl, SH, FI, FL, FR) := by
  rcases h with ⟨h1, h⟩ | ⟨h1, h⟩
  · obtain ⟨v1, n1, sl1, SH1, FI1, FL1, FR1, hc, -, rfl⟩ := h
    exact s_take_f hc hf
  · obtain ⟨v1, n1, sl1, SH1, FI1, FL1, FR1, hc, -, rfl⟩ := h
    exact s_refuse_f hc hf
theorem s_raise {w : Int32} (h : RX4_raise n sl SH FI FL FR w s) (hq : q_tk K W M FI FL) (hv : s_vw M FI FL t o) (h0 : 0 ≤ o) : ∃ F2, s = (n, sl, SH, F2, FL, FR) ∧ a_fr FI F2 FL FL ∧ ((o < 12 ∧ w.toInt = 1 ∧ s_vw M F2 FL t (o + 1)) ∨ (12 ≤ o ∧ w.toInt = 0 ∧ s_ft F2)) := by
  have c12 : ((12 : Int32)).toInt = 12 := by decide
  rcases h with ⟨h1, rfl, rfl⟩ | ⟨h1, h⟩
  · rw [hv.2.2.2.2.2, c12] at h1
    refine ⟨_, rfl, ⟨fun c k hck => h_up_x (fun h => hck ⟨h.1, by omega, by omega⟩), fun _ _ _ => rfl⟩, Or.inl ⟨h1, by decide, ?_, ?_, hv.2.2.1, ?_, hv.2.2.2.2.1, ?_⟩⟩
    · rw [h_up_x (by decide)]; exact hv.1
    · rw [h_up_x (by decide)]; exact hv.2.1
    · rw [h_up_x (by decide), h_up_nc (by decide)]; exact hv.2.2.2.1
    · rw [h_up_eq, i_add hv.2.2.2.2.2 (by decide : ((1 : Int32)).toInt = 1) (by omega) (by omega)]
  · rw [hv.2.2.2.2.2, c12] at h1
    obtain ⟨v1, n1, sl1, SH1, FI1, FL1, FR1, hc, rfl, rfl⟩ := h
    obtain ⟨F2, e, r, q⟩ := s_refuse hc (by decide) hq hv
    exact ⟨F2, e, r, Or.inr ⟨by omega, by decide, q⟩⟩
theorem s_raise_f {w : Int32} (h : RX4_raise n sl SH FI FL FR w s) (hf : (FI 110 5).toInt ≠ 0) : ∃ F2, s = (n, sl, SH, F2, FL, FR) ∧ a_fr FI F2 FL FL ∧ (F2 110 5).toInt ≠ 0 := by
  rcases h with ⟨h1, rfl, rfl⟩ | ⟨h1, h⟩
  · exact ⟨_, rfl, ⟨fun c k hck => h_up_x (fun h => hck ⟨h.1, by omega, by omega⟩), fun _ _ _ => rfl⟩, by rw [h_up_x (by decide)]; exact hf⟩
  · obtain ⟨v1, n1, sl1, SH1, FI1, FL1, FR1, hc, rfl, rfl⟩ := h
    exact ⟨FI, s_refuse_f hc hf, a_rf, hf⟩
end SP
end
section
/-! THE CLASS'S PARSER over expressions: what it leaves alone, in every state. -/
def b_ct (n : Nat) (SH : Nat → Nat × Nat) (FI : Nat → Nat → Int32) (FL : Nat → Nat → Int64) (FR : Nat → Nat → Option Nat) (n2 : Nat) (SH2 : Nat → Nat × Nat) (F2 : Nat → Nat → Int32) (L2 : Nat → Nat → Int64) (R2 : Nat → Nat → Option Nat) : Prop := n ≤ n2 ∧ h_S n2 SH2 ∧ (∀ c k, c < n → ¬ ((c = 110 ∧ 4 ≤ k ∧ k ≤ 8) ∨ c = 117) → F2 c k = FI c k) ∧ (∀ c k, c < n → ¬ (c = 110 ∧ k = 9) → L2 c k = FL c k) ∧ (∀ c k, c < n → R2 c k = FR c k) ∧ ((FI 110 5).toInt ≠ 0 → (F2 110 5).toInt ≠ 0) ∧ (∀ c, c < n → SH2 c = SH c)
def p_R (n : Nat) (SH : Nat → Nat × Nat) (FI : Nat → Nat → Int32) (FL : Nat → Nat → Int64) (FR : Nat → Nat → Option Nat) (v : Option Nat) (s : hS) : Prop := ∃ c n2 sl2 SH2 F2 L2 R2, v = some c ∧ s = (n2, sl2, SH2, F2, L2, R2) ∧ n ≤ c ∧ c < n2 ∧ b_ct n SH FI FL FR n2 SH2 F2 L2 R2 ∧ R2 c 6 = none
section BP
variable {n sl : Nat} {SH : Nat → Nat × Nat} {FI : Nat → Nat → Int32} {FL : Nat → Nat → Int64} {FR : Nat → Nat → Option Nat} {s : hS} {n1 n2 : Nat} {SH1 SH2 : Nat → Nat × Nat} {F1 F2 : Nat → Nat → Int32} {L1 L2 : Nat → Nat → Int64} {R1 R2 : Nat → Nat → Option Nat}
theorem b_rf (h : h_S n SH) : b_ct n SH FI FL FR n SH FI FL FR := ⟨Nat.le_refl _, h, fun _ _ _ _ => rfl, fun _ _ _ _ => rfl, fun _ _ _ => rfl, fun h => h, fun _ _ => rfl⟩
theorem b_tr (h : b_ct n SH FI FL FR n1 SH1 F1 L1 R1) (h2 : b_ct n1 SH1 F1 L1 R1 n2 SH2 F2 L2 R2) : b_ct n SH FI FL FR n2 SH2 F2 L2 R2 := by
  have a := h.1
  have b := h2.1
  exact ⟨by omega, h2.2.1, fun c k g1 g2 => (h2.2.2.1 c k (by omega) g2).trans (h.2.2.1 c k g1 g2), fun c k g1 g2 => (h2.2.2.2.1 c k (by omega) g2).trans (h.2.2.2.1 c k g1 g2), fun c k g1 => (h2.2.2.2.2.1 c k (by omega)).trans (h.2.2.2.2.1 c k g1), fun h3 => h2.2.2.2.2.2.1 (h.2.2.2.2.2.1 h3), fun c g1 => (h2.2.2.2.2.2.2 c (by omega)).trans (h.2.2.2.2.2.2 c g1)⟩
theorem b_a (h : h_S n SH) (ha : a_fr FI F2 FL L2) (hf : (FI 110 5).toInt ≠ 0 → (F2 110 5).toInt ≠ 0) : b_ct n SH FI FL FR n SH F2 L2 FR := ⟨Nat.le_refl _, h, fun c k _ g => ha.1 c k (fun e => g (Or.inl e)), fun c k _ g => ha.2 c k g, fun _ _ _ => rfl, hf, fun _ _ => rfl⟩
theorem b_wI {c k : Nat} {x : Int32} (h : b_ct n SH FI FL FR n2 SH2 F2 L2 R2) (h0 : 176 ≤ n) (hc : n ≤ c) : b_ct n SH FI FL FR n2 SH2 (h_up F2 c k x) L2 R2 := ⟨h.1, h.2.1, fun q j g1 g2 => by rw [h_up_nc (by omega)]; exact h.2.2.1 q j g1 g2, h.2.2.2.1, h.2.2.2.2.1, fun h3 => by rw [h_up_nc (by omega)]; exact h.2.2.2.2.2.1 h3, h.2.2.2.2.2.2⟩
theorem b_wL {c k : Nat} {x : Int64} (h : b_ct n SH FI FL FR n2 SH2 F2 L2 R2) (hc : n ≤ c) : b_ct n SH FI FL FR n2 SH2 F2 (h_up L2 c k x) R2 := ⟨h.1, h.2.1, h.2.2.1, fun q j g1 g2 => by rw [h_up_nc (by omega)]; exact h.2.2.2.1 q j g1 g2, h.2.2.2.2.1, h.2.2.2.2.2⟩
theorem b_wR {c k : Nat} {x : Option Nat} (h : b_ct n SH FI FL FR n2 SH2 F2 L2 R2) (hc : n ≤ c) : b_ct n SH FI FL FR n2 SH2 F2 L2 (h_up R2 c k x) := ⟨h.1, h.2.1, h.2.2.1, h.2.2.2.1, fun q j g1 => by rw [h_up_nc (by omega)]; exact h.2.2.2.2.1 q j g1, h.2.2.2.2.2⟩
theorem b_w4 {x : Int32} (h : b_ct n SH FI FL FR n2 SH2 F2 L2 R2) : b_ct n SH FI FL FR n2 SH2 (h_up F2 110 4 x) L2 R2 := ⟨h.1, h.2.1, fun q j g1 g2 => by rw [h_up_x (fun e => g2 (Or.inl ⟨e.1, by omega, by omega⟩))]; exact h.2.2.1 q j g1 g2, h.2.2.2.1, h.2.2.2.2.1, fun h3 => by rw [h_up_x (by decide)]; exact h.2.2.2.2.2.1 h3, h.2.2.2.2.2.2⟩
theorem b_nw {v : Unit} {tg : Nat} (h0 : h_S n SH) (h : P_nw tg n sl SH FI FL FR v s) : ∃ sl2 SH2 F2 L2 R2, s = (n + 1, sl2, SH2, F2, L2, R2) ∧ b_ct n SH FI FL FR (n + 1) SH2 F2 L2 R2 ∧ (∀ k, R2 n k = none) ∧ F2 110 = FI 110 ∧ L2 110 = FL 110 := by
  have h1 := h0.1
  have nn : ∀ {α : Type} {F : Nat → α} {x : α} {c : Nat}, c ≠ n → va_up F n x c = F c := fun hc => if_neg hc
  refine ⟨_, _, _, _, _, h, ⟨by omega, ⟨by omega, fun q hq => ?_⟩, fun c k g1 _ => ?_, fun c k g1 _ => ?_, fun c k g1 => ?_, fun h3 => ?_, fun c g1 => ?_⟩, fun k => ?_, ?_, ?_⟩
  · rw [nn (by omega)]; exact h0.2 q hq
  · rw [nn (by omega)]
  · rw [nn (by omega)]
  · rw [nn (by omega)]
  · rw [nn (by omega)]; exact h3
  · rw [nn (by omega)]
  · have e : va_up FR n (fun _ => none) n = fun _ => none := if_pos rfl
    rw [e]
  · rw [nn (by omega)]
  · rw [nn (by omega)]
theorem b_take {v : Unit} (h0 : h_S n SH) (h : RX4_take n sl SH FI FL FR v s) : ∃ F2 L2, s = (n, sl, SH, F2, L2, FR) ∧ b_ct n SH FI FL FR n SH F2 L2 FR := by
  rcases h with ⟨h1, h⟩ | ⟨-, -, rfl⟩
  · rcases h with ⟨h2, -, -, -, rfl⟩ | ⟨-, -, rfl⟩
    · refine ⟨_, _, rfl, b_a h0 ⟨fun c k hck => ?_, fun c k hck => h_up_x hck⟩ (fun h => absurd h1 h)⟩
      rw [h_up_x (fun h => hck ⟨h.1, by omega, by omega⟩), h_up_x (fun h => hck ⟨h.1, by omega, by omega⟩)]
    · exact ⟨_, _, rfl, b_rf h0⟩
  · exact ⟨_, _, rfl, b_rf h0⟩
theorem b_refuse {a : Int32} {v : Unit} (h0 : h_S n SH) (h : RX4_refuse a n sl SH FI FL FR v s) : ∃ F2, s = (n, sl, SH, F2, FL, FR) ∧ b_ct n SH FI FL FR n SH F2 FL FR := by
  rcases h with ⟨h1, h⟩ | ⟨-, -, rfl⟩
  · rcases h with ⟨-, -, rfl⟩ | ⟨-, h⟩
    · exact ⟨_, rfl, b_rf h0⟩
    · rcases h with ⟨-, -, -, rfl⟩ | ⟨-, -, rfl⟩
      · refine ⟨_, rfl, b_a h0 ⟨fun c k hck => ?_, fun _ _ _ => rfl⟩ (fun h => absurd h1 h)⟩
        rw [h_up_x (fun h => hck ⟨h.1, by omega, by omega⟩), h_up_x (fun h => hck ⟨h.1, by omega, by omega⟩), h_up_x (fun h => hck ⟨h.1, by omega, by omega⟩)]
      · exact ⟨_, rfl, b_rf h0⟩
  · exact ⟨_, rfl, b_rf h0⟩
theorem b_expect {a : Int32} {v : Unit} (h0 : h_S n SH) (h : RX4_expect a n sl SH FI FL FR v s) : ∃ F2 L2, s = (n, sl, SH, F2, L2, FR) ∧ b_ct n SH FI FL FR n SH F2 L2 FR := by
  rcases h with ⟨-, h⟩ | ⟨-, h⟩
  · obtain ⟨v1, n1, sl1, SH1, FI1, FL1, FR1, hc, -, rfl⟩ := h
    exact b_take h0 hc
  · obtain ⟨v1, n1, sl1, SH1, FI1, FL1, FR1, hc, -, rfl⟩ := h
    obtain ⟨F2, e, q⟩ := b_refuse h0 hc
    exact ⟨F2, FL, e, q⟩
theorem b_raise {w : Int32} (h0 : h_S n SH) (h : RX4_raise n sl SH FI FL FR w s) : ∃ F2, s = (n, sl, SH, F2, FL, FR) ∧ b_ct n SH FI FL FR n SH F2 FL FR := by
  rcases h with ⟨-, -, rfl⟩ | ⟨-, h⟩
  · exact ⟨_, rfl, b_w4 (b_rf h0)⟩
  · obtain ⟨v1, n1, sl1, SH1, FI1, FL1, FR1, hc, -, rfl⟩ := h
    exact b_refuse h0 hc
theorem b_high {w : Int64} (h0 : h_S n SH) (h : RX4_refuseHighRegister n sl SH FI FL FR w s) : ∃ F2, s = (n, sl, SH, F2, FL, FR) ∧ b_ct n SH FI FL FR n SH F2 FL FR := by
  rcases h with ⟨-, h⟩ | ⟨-, -, rfl⟩
  · rcases h with ⟨-, -, rfl⟩ | ⟨-, h⟩
    · exact ⟨_, rfl, b_rf h0⟩
    · obtain ⟨v1, n1, sl1, SH1, FI1, FL1, FR1, hc, -, rfl⟩ := h
      exact b_refuse h0 hc
  · exact ⟨_, rfl, b_rf h0⟩
/-- the links of a chain -/
theorem b_loop {M0 M2 : Nat → Nat → (Nat → Nat × Nat) → (Nat → Nat → Int32) → (Nat → Nat → Int64) → (Nat → Nat → Option Nat) → Option Nat → hS → Prop} {M1 : Int32 → Nat → Nat → (Nat → Nat × Nat) → (Nat → Nat → Int32) → (Nat → Nat → Int64) → (Nat → Nat → Option Nat) → Option Nat → hS → Prop} {a1 : Int32} {x : Nat} (h0 : 176 ≤ n) (hM : ∀ a n sl SH FI FL FR v s, h_S n SH → M1 a n sl SH FI FL FR v s → p_R n SH FI FL FR v s) : ∀ (gl l : Nat) (l5 l6 : Int32) (n1 sl1 : Nat) (SH1 : Nat → Nat × Nat) (F1 : Nat → Nat → Int32) (L1 : Nat → Nat → Int64) (R1 : Nat → Nat → Option Nat) (v : Option Nat) (s : hS), GX4_readLevel_68 M0 M1 M2 a1 gl (some x) (some l) l5 l6 n1 sl1 SH1 F1 L1 R1 v s → b_ct n SH FI FL FR n1 SH1 F1 L1 R1 → n ≤ x → x < n1 → n ≤ l → l ≠ x → R1 x 6 = none → ∃ n2 sl2 SH2 F2 L2 R2, v = some x ∧ s = (n2, sl2, SH2, F2, L2, R2) ∧ x < n2 ∧ b_ct n SH FI FL FR n2 SH2 F2 L2 R2 ∧ R2 x 6 = none := by
  intro gl
  induction gl with
  | zero => intro l l5 l6 n1 sl1 SH1 F1 L1 R1 v s h; exact h.elim
  | succ gl ih =>
    intro l l5 l6 n1 sl1 SH1 F1 L1 R1 v s h hb hx hx1 hl hlx hR
    rcases h with ⟨-, h⟩ | ⟨-, rfl, rfl⟩
    · rcases h with ⟨-, h⟩ | ⟨-, rfl, rfl⟩
      · obtain ⟨v3, n3, sl3, SH3, FI3, FL3, FR3, hc, v4, n4, sl4, SH4, FI4, FL4, FR4, hm, c6, e6, c7, e7, c8, e8, hK⟩ := h
        cases e6
        cases e7
        obtain ⟨F3, L3, e, q3⟩ := b_take hb.2.1 hc
        cases e
        obtain ⟨c, n5, sl5, SH5, F5, L5, R5, rfl, e, g1, g2, q4, q5⟩ := hM _ _ _ _ _ _ _ _ _ q3.2.1 hm
        cases e
        rw [h_up_eq] at e8 hK
        cases e8
        have hb2 := b_tr hb (b_tr q3 q4)
        have hn1 := hb.1
        have hn4 := q4.1
        refine ih c8 l5 _ n4 sl4 SH4 _ FL4 _ v s hK (b_wI (b_wR hb2 hl) h0 (by omega)) hx (by omega) (by omega) (by omega) ?_
        rw [h_up_nc (fun e => hlx e.symm), q4.2.2.2.2.1 x 6 hx1]
        exact hR
      · exact ⟨_, _, _, _, _, _, rfl, rfl, hx1, hb, hR⟩
    · exact ⟨_, _, _, _, _, _, rfl, rfl, hx1, hb, hR⟩
theorem b_G : ∀ (g e : Nat) (a1 : Int32) (n sl : Nat) (SH : Nat → Nat × Nat) (FI : Nat → Nat → Int32) (FL : Nat → Nat → Int64) (FR : Nat → Nat → Option Nat) (v : Option Nat) (s : hS), h_S n SH → QX4 g e a1 n sl SH FI FL FR v s → p_R n SH FI FL FR v s := by
  intro g
  induction g with
  | zero => intro e a1 n sl SH FI FL FR v s _ h; exact h.elim
  | succ g ih =>
    intro e a1 n sl SH FI FL FR v s hQ h
    have h176 := hQ.1
    match e, h with
    | 0, h =>
      obtain ⟨v0, n0, sl0, SH0, FI0, FL0, FR0, k0, v1, n1, sl1, SH1, FI1, FL1, FR1, k1, h⟩ := h
      obtain ⟨sl', SH', F', L', R', e, q0, q1, -, -⟩ := b_nw hQ k0
      cases e
      obtain ⟨-, e⟩ := k1
      cases e
      have b1 := b_wL (k := 1) (x := FL0 110 9) (b_wI (k := 0) (x := FI0 110 8) q0 h176 (Nat.le_refl _)) (Nat.le_refl _)
      rcases h with ⟨-, h⟩ | ⟨-, h⟩
      · obtain ⟨v3, n3, sl3, SH3, FI3, FL3, FR3, hc, rfl, rfl⟩ := h
        obtain ⟨F3, L3, e, q3⟩ := b_take b1.2.1 hc
        cases e
        exact ⟨n, _, _, _, _, _, _, rfl, rfl, Nat.le_refl _, by omega, b_tr b1 q3, q1 6⟩
      · rcases h with ⟨-, h⟩ | ⟨-, h⟩
        · obtain ⟨v5, n5, sl5, SH5, FI5, FL5, FR5, hc, h⟩ := h
          obtain ⟨F5, e, q5⟩ := b_raise b1.2.1 hc
          cases e
          rcases h with ⟨-, rfl, rfl⟩ | ⟨-, h⟩
          · exact ⟨n, _, _, _, _, _, _, rfl, rfl, Nat.le_refl _, by omega, b_tr b1 q5, q1 6⟩
          · obtain ⟨v7, n7, sl7, SH7, FI7, FL7, FR7, hc7, v8, n8, sl8, SH8, FI8, FL8, FR8, hm, rfl, rfl⟩ := h
            obtain ⟨F7, L7, e, q7⟩ := b_take q5.2.1 hc7
            cases e
            obtain ⟨c, n9, sl9, SH9, F9, L9, R9, rfl, e, g1, g2, q8, q9⟩ := ih 0 0 _ _ _ _ _ _ _ _ q7.2.1 hm
            cases e
            refine ⟨n, _, _, _, _, _, _, rfl, rfl, Nat.le_refl _, by omega, b_w4 (b_wR (b_tr b1 (b_tr q5 (b_tr q7 q8))) (Nat.le_refl _)), ?_⟩
            rw [h_up_ne (by decide), q8.2.2.2.2.1 n 6 (by omega)]
            exact q1 6
        · rcases h with ⟨-, h⟩ | ⟨-, h⟩
          · obtain ⟨v12, n12, sl12, SH12, FI12, FL12, FR12, hc, v13, n13, sl13, SH13, FI13, FL13, FR13, hc2, v15, n15, sl15, SH15, FI15, FL15, FR15, hc3, rfl, rfl⟩ := h
            obtain ⟨F3, L3, e, q3⟩ := b_take b1.2.1 hc
            cases e
            obtain ⟨F4, e, q4⟩ := b_high q3.2.1 hc2
            cases e
            obtain ⟨F5, L5, e, q5⟩ := b_expect q4.2.1 hc3
            cases e
            exact ⟨n, _, _, _, _, _, _, rfl, rfl, Nat.le_refl _, by omega, b_tr (b_wL (b_tr b1 (b_tr q3 q4)) (Nat.le_refl _)) q5, q1 6⟩
          · rcases h with ⟨-, h⟩ | ⟨-, h⟩
            · obtain ⟨v5, n5, sl5, SH5, FI5, FL5, FR5, hc, h⟩ := h
              obtain ⟨F5, e, q5⟩ := b_raise b1.2.1 hc
              cases e
              rcases h with ⟨-, rfl, rfl⟩ | ⟨-, h⟩
              · exact ⟨n, _, _, _, _, _, _, rfl, rfl, Nat.le_refl _, by omega, b_tr b1 q5, q1 6⟩
              · obtain ⟨v7, n7, sl7, SH7, FI7, FL7, FR7, hc7, v8, n8, sl8, SH8, FI8, FL8, FR8, hm, v22, n22, sl22, SH22, FI22, FL22, FR22, hc8, rfl, rfl⟩ := h
                obtain ⟨F7, L7, e, q7⟩ := b_take q5.2.1 hc7
                cases e
                obtain ⟨c, n9, sl9, SH9, F9, L9, R9, rfl, e, g1, g2, q8, q9⟩ := ih 2 0 _ _ _ _ _ _ _ _ q7.2.1 hm
                cases e
                obtain ⟨F8, L8, e, q10⟩ := b_expect q8.2.1 hc8
                cases e
                refine ⟨n, _, _, _, _, _, _, rfl, rfl, Nat.le_refl _, by omega, b_w4 (b_tr (b_wR (b_tr b1 (b_tr q5 (b_tr q7 q8))) (Nat.le_refl _)) q10), ?_⟩
                rw [h_up_ne (by decide), q8.2.2.2.2.1 n 6 (by omega)]
                exact q1 6
            · obtain ⟨v24, n24, sl24, SH24, FI24, FL24, FR24, hc, rfl, rfl⟩ := h
              obtain ⟨F4, e, q4⟩ := b_refuse b1.2.1 hc
              cases e
              exact ⟨n, _, _, _, _, _, _, rfl, rfl, Nat.le_refl _, by omega, b_tr b1 q4, q1 6⟩
    | 1, h =>
      rcases h with ⟨-, h⟩ | ⟨-, h⟩
      · obtain ⟨v1, n1, sl1, SH1, FI1, FL1, FR1, hm, h⟩ := h
        obtain ⟨c, n9, sl9, SH9, F9, L9, R9, rfl, e, g1, g2, q1, q2⟩ := ih 1 _ _ _ _ _ _ _ _ _ hQ hm
        cases e
        rcases h with ⟨-, h⟩ | ⟨-, rfl, rfl⟩
        · obtain ⟨v4, n4, sl4, SH4, FI4, FL4, FR4, k0, v5, n5, sl5, SH5, FI5, FL5, FR5, k1, h⟩ := h
          obtain ⟨sl', SH', F', L', R', e, q3, q4, -, -⟩ := b_nw q1.2.1 k0
          cases e
          obtain ⟨-, e⟩ := k1
          cases e
          have hn1 := q1.1
          have b1 := b_wR (k := 3) (x := some c) (b_wL (k := 1) (x := (0 : Int64)) (b_wI (k := 0) (x := (25 : Int32)) (b_tr q1 q3) h176 hn1) hn1) hn1
          have fin : ∀ {m : Int32}, RX4_readLevel_63 (fun n sl SH FI FL FR => QX4 g 0 0 n sl SH FI FL FR) (fun a1 n sl SH FI FL FR => QX4 g 1 a1 n sl SH FI FL FR) (fun n sl SH FI FL FR => QX4 g 2 0 n sl SH FI FL FR) a1 (some n1) (some c) m (n1 + 1) sl4 SH4 (h_up FI4 n1 0 (25 : Int32)) (h_up FL4 n1 1 (0 : Int64)) (h_up FR4 n1 3 (some c)) v s → p_R n SH FI FL FR v s := by
            intro m h
            obtain ⟨gl, h⟩ := h
            obtain ⟨n2, sl2, SH2, F2, L2, R2, rfl, rfl, g3, g4, g5⟩ := b_loop (x := n1) h176 (fun a n sl SH FI FL FR v s hS2 hm2 => ih 1 a n sl SH FI FL FR v s hS2 hm2) gl c _ _ _ _ _ _ _ _ v s h b1 hn1 (by omega) g1 (by omega) (by rw [h_up_ne (by decide)]; exact q4 6)
            exact ⟨n1, _, _, _, _, _, _, rfl, rfl, hn1, g3, g4, g5⟩
          rcases h with ⟨-, h⟩ | ⟨-, h⟩
          · exact fin h
          · exact fin h
        · exact ⟨c, _, _, _, _, _, _, rfl, rfl, g1, g2, q1, q2⟩
      · obtain ⟨v8, n8, sl8, SH8, FI8, FL8, FR8, hm, rfl, rfl⟩ := h
        exact ih 0 0 _ _ _ _ _ _ _ _ hQ hm
    | e + 2, h =>
      obtain ⟨v0, n0, sl0, SH0, FI0, FL0, FR0, hm, h⟩ := h
      obtain ⟨c, n9, sl9, SH9, F9, L9, R9, rfl, e, g1, g2, q1, q2⟩ := ih 1 _ _ _ _ _ _ _ _ _ hQ hm
      cases e
      rcases h with ⟨-, h⟩ | ⟨-, rfl, rfl⟩
      · obtain ⟨v2, n2, sl2, SH2, FI2, FL2, FR2, hc, h⟩ := h
        obtain ⟨F5, e, q5⟩ := b_raise q1.2.1 hc
        cases e
        rcases h with ⟨-, rfl, rfl⟩ | ⟨-, h⟩
        · exact ⟨c, _, _, _, _, _, _, rfl, rfl, g1, g2, b_tr q1 q5, q2⟩
        · obtain ⟨v4, n4, sl4, SH4, FI4, FL4, FR4, k0, v5, n5, sl5, SH5, FI5, FL5, FR5, k1, v7, n7, sl7, SH7, FI7, FL7, FR7, hc7, v8, n8, sl8, SH8, FI8, FL8, FR8, hm8, v10, n10, sl10, SH10, FI10, FL10, FR10, hc10, v11, n11, sl11, SH11, FI11, FL11, FR11, hm11, rfl, rfl⟩ := h
          have hn1 := q1.1
          obtain ⟨sl', SH', F', L', R', e, q3, q4, -, -⟩ := b_nw q5.2.1 k0
          cases e
          obtain ⟨-, e⟩ := k1
          cases e
          have b1 := b_wR (k := 3) (x := some c) (b_wL (k := 1) (x := (0 : Int64)) (b_wI (k := 0) (x := (63 : Int32)) (b_tr q1 (b_tr q5 q3)) h176 hn1) hn1) hn1
          obtain ⟨F7, L7, e, q7⟩ := b_take b1.2.1 hc7
          cases e
          obtain ⟨c8, n9, sl9, SH9, F9, L9, R9, rfl, e, g3, g4, q8, q9⟩ := ih 2 0 _ _ _ _ _ _ _ _ q7.2.1 hm8
          cases e
          obtain ⟨F10, L10, e, q10⟩ := b_expect q8.2.1 hc10
          cases e
          obtain ⟨c11, n12, sl12, SH12, F12, L12, R12, rfl, e, g5, g6, q11, q12⟩ := ih 2 0 _ _ _ _ _ _ _ _ q10.2.1 hm11
          cases e
          have m8 := q8.1
          have m11 := q11.1
          refine ⟨_, _, _, _, _, _, _, rfl, rfl, hn1, by omega, b_w4 (b_wR (b_tr (b_tr (b_wR (b_tr b1 (b_tr q7 q8)) hn1) q10) q11) hn1), ?_⟩
          rw [h_up_ne (by decide), q11.2.2.2.2.1 _ 6 (by omega), h_up_ne (by decide), q8.2.2.2.2.1 _ 6 (by omega), h_up_ne (by decide)]
          exact q4 6
      · exact ⟨c, _, _, _, _, _, _, rfl, rfl, g1, g2, q1, q2⟩
end BP
end
section
/-! THE CLASS'S PARSER over expressions: what it builds codes to what lc_ps says. (Definitions, the side of lc_ps, what stands alone.) -/
def p_H (l : Nat) (o : Int) : Nat := (12 - o).toNat * 9 + (8 - l)
/-- lc_ps with fuel enough -/
def l_ev (K W : Nat → Int) (l : Nat) (o : Int) (t : Nat) (r : Option (Nat × List Int)) : Prop := ∃ F0, ∀ f, F0 ≤ f → lc_ps K W f l o t = r
def l_pe (K W : Nat → Int) (l : Nat) (o : Int) (t : Nat) (c : List Int) (r : Option (Nat × List Int)) : Prop := ∃ F0, ∀ f N, F0 ≤ f → F0 ≤ N → lc_pr (fun t' => lc_ps K W f (l + 1) o t') K W l N t c = r
theorem l_ev_u {K W : Nat → Int} {l t : Nat} {o : Int} {r r2 : Option (Nat × List Int)} (h : l_ev K W l o t r) (h2 : l_ev K W l o t r2) : r = r2 := by
  obtain ⟨a, h⟩ := h
  obtain ⟨b, h2⟩ := h2
  rw [← h (a + b) (by omega), h2 (a + b) (by omega)]
/-- what stands alone -/
theorem l_8 {K W : Nat → Int} {t : Nat} {o : Int} (h1 : lc_uy (K t) (W t) = false) (h2 : ¬ (K t = 5 ∧ W t = 40)) : l_ev K W 8 o t (lc_at K W false t) := by
  refine ⟨1, fun f hf => ?_⟩
  cases f with
  | zero => omega
  | succ f =>
    rw [lc_ps, if_neg (by decide), if_pos rfl, if_neg (by rw [h1]; decide), if_neg h2]
/-- what is made of an operand -/
def l_mu (u : List Int) : Option (Nat × List Int) → Option (Nat × List Int)
  | none => none
  | some (t1, c1) => some (t1, c1 ++ u)
def l_mp (K W : Nat → Int) : Option (Nat × List Int) → Option (Nat × List Int)
  | none => none
  | some (t1, c1) => if K t1 = 5 ∧ W t1 = 41 then some (t1 + 1, c1) else none
/-- a sign ahead of an operand -/
theorem l_8u {K W : Nat → Int} {t : Nat} {o : Int} {r : Option (Nat × List Int)} (h1 : lc_uy (K t) (W t) = true) (ho : o < 12) (h : l_ev K W 8 (o + 1) (t + 1) r) : l_ev K W 8 o t (l_mu (lc_un (K t) (W t)) r) := by
  obtain ⟨a, h⟩ := h
  refine ⟨a + 1, fun f hf => ?_⟩
  cases f with
  | zero => omega
  | succ f =>
    rw [lc_ps, if_neg (by decide), if_pos rfl, if_pos h1, if_neg (by omega), h f (by omega)]
    cases r <;> rfl
theorem l_8n {K W : Nat → Int} {t : Nat} {o : Int} (h1 : lc_uy (K t) (W t) = true ∨ (K t = 5 ∧ W t = 40)) (ho : 12 ≤ o) : l_ev K W 8 o t none := by
  refine ⟨1, fun f hf => ?_⟩
  cases f with
  | zero => omega
  | succ f =>
    rw [lc_ps, if_neg (by decide), if_pos rfl]
    by_cases h2 : lc_uy (K t) (W t) = true
    · rw [if_pos h2, if_pos ho]
    · rw [if_neg h2, if_pos (h1.resolve_left h2), if_pos ho]
/-- a parenthesis -/
theorem l_8p {K W : Nat → Int} {t : Nat} {o : Int} {r : Option (Nat × List Int)} (h2 : K t = 5 ∧ W t = 40) (ho : o < 12) (h : l_ev K W 0 (o + 1) (t + 1) r) : l_ev K W 8 o t (l_mp K W r) := by
  have h1 : ¬ lc_uy (K t) (W t) = true := by
    unfold lc_uy
    rw [decide_eq_true_eq]
    omega
  obtain ⟨a, h⟩ := h
  refine ⟨a + 1, fun f hf => ?_⟩
  cases f with
  | zero => omega
  | succ f =>
    rw [lc_ps, if_neg (by decide), if_pos rfl, if_neg h1, if_pos h2, if_neg (by omega), h f (by omega)]
    cases r <;> rfl
/-- a choice's first -/
theorem l_0 {K W : Nat → Int} {t : Nat} {o : Int} {r : Option (Nat × List Int)} (h : l_ev K W 1 o t r) (hr : ∀ t1 c1, r = some (t1, c1) → ¬ (K t1 = 5 ∧ W t1 = 63)) : l_ev K W 0 o t r := by
  obtain ⟨a, h⟩ := h
  refine ⟨a + 1, fun f hf => ?_⟩
  cases f with
  | zero => omega
  | succ f =>
    rw [lc_ps, if_pos rfl, h f (by omega)]
    cases r with
    | none => rfl
    | some x =>
      obtain ⟨t1, c1⟩ := x
      dsimp only
      rw [if_neg (hr t1 c1 rfl)]
/-- what the cells below 176 say stays -/
theorem s_cells {K W : Nat → Int} {M t : Nat} {o : Int} {FI F2 : Nat → Nat → Int32} {FL L2 : Nat → Nat → Int64} (h1 : ∀ c, c < 176 → F2 c = FI c) (h2 : ∀ c, c < 176 → L2 c = FL c) (hq : q_tk K W M FI FL) (hv : s_vw M FI FL t o) : q_tk K W M F2 L2 ∧ s_vw M F2 L2 t o := by
  refine ⟨q_fr hq ⟨h1 112 (by decide), by rw [h1 111 (by decide)], h2 113 (by decide)⟩, ?_⟩
  unfold s_vw
  rw [h1 110 (by decide), h1 112 (by decide), h2 110 (by decide), h2 113 (by decide)]
  exact hv
/-- what is known of the root of a reading from t to t2 -/
def p_kd (K W : Nat → Int) (t t2 : Nat) (F : Nat → Nat → Int32) (L : Nat → Nat → Int64) (c : Nat) : Prop := ((F c 0).toInt = 5 ↔ K t = 3 ∧ t2 = t + 1) ∧ (K t = 3 ∧ t2 = t + 1 → (L c 1).toInt = W t) ∧ (((F c 0).toInt = 37 ∨ (F c 0).toInt = 11) ↔ ∃ x, lc_bs K W t = some (t2, x)) ∧ (∀ x, lc_bs K W t = some (t2, x) → ∀ p, n_bs (F c 0).toInt (L c 1).toInt p = x :: lc_s 9 p)
/-- what a reading at level l from t, with o open, comes to -/
def p_ok (K W : Nat → Int) (M n l : Nat) (o : Int) (t n2 : Nat) (F2 : Nat → Nat → Int32) (L2 : Nat → Nat → Int64) (R2 : Nat → Nat → Option Nat) (c : Nat) : Prop := (∃ t2 code, l_ev K W l o t (some (t2, code)) ∧ t < t2 ∧ s_vw M F2 L2 t2 o ∧ n_is F2 L2 R2 n n2 c (p_H l o) code ∧ p_kd K W t t2 F2 L2 c ∧ (l = 7 → au_bn (K t2) (W t2) ≠ 7)) ∨ (l_ev K W l o t none ∧ s_ft F2)
def p_res (K W : Nat → Int) (M n l : Nat) (o : Int) (t : Nat) (v : Option Nat) (s : hS) : Prop := ∃ c n2 sl2 SH2 F2 L2 R2, v = some c ∧ s = (n2, sl2, SH2, F2, L2, R2) ∧ p_ok K W M n l o t n2 F2 L2 R2 c
section AT
variable {K W : Nat → Int} {t : Nat}
theorem at_3 (h : K t = 3) : lc_at K W false t = some (t + 1, lc_c (W t)) := by
  unfold lc_at
  rw [if_pos h]
theorem at_5 (h : K t = 2 ∧ W t = 5) : lc_at K W false t = some (t + 1, [156]) := by
  unfold lc_at
  rw [if_neg (by omega), if_pos h]
theorem at_6 (h : K t = 2 ∧ W t = 6) : lc_at K W false t = some (t + 1, [151]) := by
  unfold lc_at
  rw [if_neg (by omega), if_neg (by omega), if_pos h]
theorem bs_4 (h : K t = 2 ∧ W t = 4) : lc_bs K W t = some (t + 1, 145) := by
  unfold lc_bs
  rw [if_neg (by omega), if_pos h]
theorem at_4 (h : K t = 2 ∧ W t = 4) : lc_at K W false t = some (t + 1, 145 :: lc_s 9 0) := by
  unfold lc_at
  rw [if_neg (by omega), if_neg (by omega), if_neg (by omega), bs_4 h]
  rfl
theorem bs_r (h : K t = 5 ∧ W t = 37) : lc_bs K W t = if K (t + 1) = 3 ∧ W (t + 1) ≤ 31 then some (t + 2, 112 + W (t + 1)) else none := by
  unfold lc_bs
  rw [if_pos h]
theorem at_r (h : K t = 5 ∧ W t = 37) : lc_at K W false t = if K (t + 1) = 3 ∧ W (t + 1) ≤ 31 then some (t + 2, (112 + W (t + 1)) :: lc_s 9 0) else none := by
  unfold lc_at
  rw [if_neg (by omega), if_neg (by omega), if_neg (by omega), bs_r h]
  by_cases h1 : K (t + 1) = 3 ∧ W (t + 1) ≤ 31
  · rw [if_pos h1, if_pos h1]
    rfl
  · rw [if_neg h1, if_neg h1]
theorem bs_n (h : ¬ (K t = 5 ∧ W t = 37)) (h4 : ¬ (K t = 2 ∧ W t = 4)) : lc_bs K W t = none := by
  unfold lc_bs
  rw [if_neg h, if_neg h4]
theorem at_n (h3 : K t ≠ 3) (h5 : ¬ (K t = 2 ∧ W t = 5)) (h6 : ¬ (K t = 2 ∧ W t = 6)) (h4 : ¬ (K t = 2 ∧ W t = 4)) (h : ¬ (K t = 5 ∧ W t = 37)) : lc_at K W false t = none := by
  unfold lc_at
  rw [if_neg h3, if_neg h5, if_neg h6, bs_n h h4]
end AT

theorem bn_6 {k w : Int} : au_bn k w = 6 ↔ k = 5 ∧ (w = 43 ∨ w = 45) := by
  unfold au_bn
  constructor
  · intro h
    repeat' split at h
    all_goals omega
  · intro h
    rw [if_neg (by omega), if_pos h]
theorem bs_le {K W : Nat → Int} {t b : Nat} {x : Int} (h : lc_bs K W t = some (b, x)) : b ≤ t + 2 ∧ K t ≠ 3 := by
  unfold lc_bs at h
  by_cases h1 : K t = 5 ∧ W t = 37
  · rw [if_pos h1] at h
    by_cases h2 : K (t + 1) = 3 ∧ W (t + 1) ≤ 31
    · rw [if_pos h2] at h
      have e := Option.some.inj h
      have e1 : t + 2 = b := congrArg Prod.fst e
      omega
    · rw [if_neg h2] at h
      cases h
  · rw [if_neg h1] at h
    by_cases h2 : K t = 2 ∧ W t = 4
    · rw [if_pos h2] at h
      have e := Option.some.inj h
      have e1 : t + 1 = b := congrArg Prod.fst e
      omega
    · rw [if_neg h2] at h
      cases h
section LV
variable {K W : Nat → Int} {l t t1 t2 : Nat} {o : Int} {c ce : List Int} {r : Option (Nat × List Int)}
theorem l_stop (h : au_bn (K t) (W t) ≠ (l : Int)) : l_pe K W l o t c (some (t, c)) := by
  refine ⟨1, fun f N _ hN => ?_⟩
  cases N with
  | zero => omega
  | succ N => rw [lc_pr, if_neg h]
theorem l_lv (h1 : 1 ≤ l) (h7 : l ≤ 7) (hn : ¬ (l = 6 ∧ lc_cm K W t = true)) (h : l_ev K W (l + 1) o t (some (t1, c))) (hp : l_pe K W l o t1 c r) : l_ev K W l o t r := by
  obtain ⟨a, h⟩ := h
  obtain ⟨b, hp⟩ := hp
  refine ⟨a + b + 1, fun f hf => ?_⟩
  cases f with
  | zero => omega
  | succ f =>
    rw [lc_ps, if_neg (by omega), if_neg (by omega), if_neg (by rw [Bool.and_eq_true, decide_eq_true_eq]; exact hn), h f (by omega)]
    exact hp f f (by omega) (by omega)
/-- what stands alone, and no * behind it -/
theorem l_7 (h : l_ev K W 8 o t (some (t1, c))) (hb : au_bn (K t1) (W t1) ≠ 7) : l_ev K W 7 o t (some (t1, c)) := l_lv (by decide) (by decide) (by omega) h (l_stop hb)
theorem l_al7 {i : Nat} (h : lc_al K W i = true) : l_ev K W 7 o i (some (i + 1, lc_c (W i))) := by
  unfold lc_al at h
  rw [decide_eq_true_eq] at h
  refine l_7 ?_ h.2
  have h8 : l_ev K W 8 o i (lc_at K W false i) := l_8 (by unfold lc_uy; rw [decide_eq_false_iff_not]; omega) (by omega)
  rw [at_3 h.1] at h8
  exact h8
theorem l_cm_e (h : lc_cm K W t = true) : ∃ b x, lc_bs K W t = some (b, x) ∧ (K b = 5 ∧ (W b = 43 ∨ W b = 45)) ∧ lc_al K W (b + 1) = true ∧ (∀ o, l_ev K W 7 o t (some (b, x :: lc_s 9 0))) ∧ lc_at K W true t = some (b + 2, x :: lc_s 9 (lc_sg K W b)) := by
  obtain ⟨b, x, h1, h2, h3⟩ := lc_cm_at h
  have h4 := h2
  unfold lc_ad at h4
  rw [Bool.and_eq_true, decide_eq_true_eq] at h4
  refine ⟨b, x, h1, h4.1, h4.2, fun o => ?_, h3⟩
  obtain ⟨-, -, j3, ju, j40, j5, j6⟩ := lc_bs_lt (T := 0) h1
  refine l_7 ?_ ?_
  · have h8 : l_ev K W 8 o t (lc_at K W false t) := l_8 ju j40
    have e : lc_at K W false t = some (b, x :: lc_s 9 0) := by
      unfold lc_at
      rw [if_neg j3, if_neg j5, if_neg j6, h1]
      rfl
    rw [e] at h8
    exact h8
  · rw [bn_6.mpr h4.1]
    decide
theorem l_alone (h1 : 1 ≤ l) (h7 : l ≤ 7) (h : l_ev K W (l + 1) o t (some (t1, c))) (hb : au_bn (K t1) (W t1) ≠ (l : Int)) : l_ev K W l o t (some (t1, c)) := by
  refine l_lv h1 h7 (fun hn => ?_) h (l_stop hb)
  obtain ⟨b, x, -, k1, -, k2, -⟩ := l_cm_e hn.2
  obtain ⟨rfl, -⟩ := hn
  have e := l_ev_u h (k2 o)
  have e1 : t1 = b := congrArg Prod.fst (Option.some.inj e)
  subst e1
  exact hb (bn_6.mpr k1)
theorem l_none (h1 : 1 ≤ l) (h7 : l ≤ 7) (h : l_ev K W (l + 1) o t none) : l_ev K W l o t none := by
  have hn : ¬ (l = 6 ∧ lc_cm K W t = true) := by
    intro hn
    obtain ⟨b, x, -, -, -, k2, -⟩ := l_cm_e hn.2
    obtain ⟨rfl, -⟩ := hn
    have e := l_ev_u h (k2 o)
    cases e
  obtain ⟨a, h⟩ := h
  refine ⟨a + 1, fun f hf => ?_⟩
  cases f with
  | zero => omega
  | succ f =>
    rw [lc_ps, if_neg (by omega), if_neg (by omega), if_neg (by rw [Bool.and_eq_true, decide_eq_true_eq]; exact hn), h f (by omega)]
/-- a link's bytes -/
def l_tm (K W : Nat → Int) (l t : Nat) (ce : List Int) : List Int := if (decide (l = 6 ∧ W t = 43) && lc_al K W (t + 1)) = true then 35 :: lc_u 9 (W (t + 1)) else ce ++ [lc_op (K t) (W t)]
def l_px (K W : Nat → Int) (l : Nat) (o : Int) (t : Nat) (c : List Int) (r : Option (Nat × List Int)) : Prop := (l = 4 → r = some (t, c)) ∧ (l ≠ 4 → l_pe K W l o t c r)
theorem l_al2 (hh : (decide (l = 6 ∧ W t = 43) && lc_al K W (t + 1)) = true) (h : l_ev K W (l + 1) o (t + 1) r) : l = 6 ∧ r = some (t + 2, lc_c (W (t + 1))) := by
  rw [Bool.and_eq_true, decide_eq_true_eq] at hh
  obtain ⟨⟨rfl, -⟩, h2⟩ := hh
  exact ⟨rfl, l_ev_u h (l_al7 h2)⟩
theorem l_step (hl : au_bn (K t) (W t) = (l : Int)) (h : l_ev K W (l + 1) o (t + 1) (some (t2, ce))) (hp : l_px K W l o t2 (c ++ l_tm K W l t ce) r) : l_pe K W l o t c r := by
  have h0 := h
  obtain ⟨a, h⟩ := h
  by_cases hh : (decide (l = 6 ∧ W t = 43) && lc_al K W (t + 1)) = true
  · obtain ⟨e6, e⟩ := l_al2 hh h0
    have e1 : t2 = t + 2 := congrArg Prod.fst (Option.some.inj e)
    obtain ⟨b, hp⟩ := hp.2 (by omega)
    unfold l_tm at hp
    rw [if_pos hh, e1] at hp
    refine ⟨a + b + 1, fun f N hf hN => ?_⟩
    cases N with
    | zero => omega
    | succ N =>
      rw [lc_pr, if_pos hl, if_pos hh]
      exact hp f N (by omega) (by omega)
  · have et : l_tm K W l t ce = ce ++ [lc_op (K t) (W t)] := by unfold l_tm; rw [if_neg hh]
    rw [et] at hp
    by_cases h4 : l = 4
    · have hr := hp.1 h4
      refine ⟨a + 1, fun f N hf hN => ?_⟩
      cases N with
      | zero => omega
      | succ N =>
        rw [lc_pr, if_pos hl, if_neg hh, h f (by omega)]
        dsimp only
        rw [if_pos h4, hr]
    · obtain ⟨b, hp⟩ := hp.2 h4
      refine ⟨a + b + 1, fun f N hf hN => ?_⟩
      cases N with
      | zero => omega
      | succ N =>
        rw [lc_pr, if_pos hl, if_neg hh, h f (by omega)]
        dsimp only
        rw [if_neg h4]
        exact hp f N (by omega) (by omega)
theorem l_stepn (hl : au_bn (K t) (W t) = (l : Int)) (h : l_ev K W (l + 1) o (t + 1) none) : l_pe K W l o t c none := by
  have h0 := h
  obtain ⟨a, h⟩ := h
  by_cases hh : (decide (l = 6 ∧ W t = 43) && lc_al K W (t + 1)) = true
  · obtain ⟨e6, e⟩ := l_al2 hh h0
    cases e
  · refine ⟨a + 1, fun f N hf hN => ?_⟩
    cases N with
    | zero => omega
    | succ N => rw [lc_pr, if_pos hl, if_neg hh, h f (by omega)]
/-- the first two are one operation -/
theorem l_cmv {b : Nat} {x : Int} (h : lc_cm K W t = true) (hb : lc_bs K W t = some (b, x)) (hp : l_px K W 6 o (b + 2) (x :: lc_s 9 (lc_sg K W b)) r) : l_ev K W 6 o t r := by
  obtain ⟨b', x', h1, -, -, -, h2⟩ := l_cm_e h
  rw [hb] at h1
  cases h1
  obtain ⟨a, hp⟩ := hp.2 (by decide)
  refine ⟨a + 1, fun f hf => ?_⟩
  cases f with
  | zero => omega
  | succ f =>
    rw [lc_ps, if_neg (by decide), if_neg (by decide), if_pos (by rw [h]; rfl), h2]
    exact hp f f (by omega) (by omega)
end LV
/-! The root's kind. -/
section KD
variable {K W : Nat → Int} {t t2 : Nat} {F : Nat → Nat → Int32} {L : Nat → Nat → Int64} {c : Nat}
theorem p_kd_n (h5 : (F c 0).toInt ≠ 5) (h37 : (F c 0).toInt ≠ 37) (h11 : (F c 0).toInt ≠ 11) (hK : K t ≠ 3) (hb : lc_bs K W t = none) : p_kd K W t t2 F L c :=
  ⟨⟨fun h => absurd h h5, fun h => absurd h.1 hK⟩, fun h => absurd h.1 hK, ⟨fun h => (h.elim h37 h11).elim, fun ⟨x, hx⟩ => by rw [hb] at hx; cases hx⟩, fun x hx => by rw [hb] at hx; cases hx⟩
theorem p_kd_f (h5 : (F c 0).toInt ≠ 5) (h37 : (F c 0).toInt ≠ 37) (h11 : (F c 0).toInt ≠ 11) (ht : t + 3 ≤ t2) : p_kd K W t t2 F L c :=
  ⟨⟨fun h => absurd h h5, fun h => by omega⟩, fun h => by omega, ⟨fun h => (h.elim h37 h11).elim, fun ⟨x, hx⟩ => by have := (bs_le hx).1; omega⟩, fun x hx => by have := (bs_le hx).1; omega⟩
theorem p_kd_fr {F2 : Nat → Nat → Int32} {L2 : Nat → Nat → Int64} (h : p_kd K W t t2 F L c) (e1 : F2 c 0 = F c 0) (e2 : L2 c 1 = L c 1) : p_kd K W t t2 F2 L2 c := by
  unfold p_kd
  rw [e1, e2]
  exact h
/-- what stands alone -/
theorem p_at {R : Nat → Nat → Option Nat} {n n2 : Nat} {o : Int} (hk : (F c 0).toInt = t_ck (K t) (W t)) (kr : k_rg (K t) (W t)) (hc : t_ck (K t) (W t) = 5 ∨ t_ck (K t) (W t) = 11 ∨ t_ck (K t) (W t) = 12 ∨ t_ck (K t) (W t) = 13) (h3 : K t = 3 → (L c 1).toInt = W t ∧ 0 ≤ W t ∧ W t ≤ 999999999999999999) (h0 : 176 ≤ n) (h1 : n ≤ c) (h2 : c < n2) : ∃ code, l_ev K W 8 o t (some (t + 1, code)) ∧ n_is F L R n n2 c 0 code ∧ p_kd K W t (t + 1) F L c := by
  have ce := ck_e kr
  have hu : lc_uy (K t) (W t) = false := by
    cases hu : lc_uy (K t) (W t) with
    | false => rfl
    | true =>
      exfalso
      have := (ck_un kr).1.mp hu
      omega
  have h8 : l_ev K W 8 o t (lc_at K W false t) := l_8 hu (by omega)
  rcases hc with hc | hc | hc | hc
  · have hK : K t = 3 := by omega
    obtain ⟨w1, w2, w3⟩ := h3 hK
    rw [at_3 hK] at h8
    have hb : lc_bs K W t = none := bs_n (by omega) (by omega)
    refine ⟨_, h8, n_is_at h0 h1 h2 ?_ (Or.inl ⟨by omega, by rw [w1]⟩), ⟨fun _ => ⟨hK, rfl⟩, fun _ => by omega⟩, fun _ => w1, ⟨fun h => by omega, fun ⟨x, hx⟩ => by rw [hb] at hx; cases hx⟩, fun x hx => by rw [hb] at hx; cases hx⟩
    unfold n_rg
    rw [decide_eq_true_eq]
    refine ⟨fun _ => ?_, fun h => ?_, fun h => ?_⟩ <;> omega
  · have hK : K t = 2 ∧ W t = 4 := by omega
    have k11 : (F c 0).toInt = 11 := by omega
    rw [at_4 hK] at h8
    refine ⟨_, h8, n_is_at h0 h1 h2 ?_ (Or.inr (Or.inl ⟨Or.inl k11, by rw [k11]; rfl⟩)), ⟨fun h => by omega, fun h => by omega⟩, fun h => by omega, ⟨fun _ => ⟨145, bs_4 hK⟩, fun _ => Or.inr k11⟩, fun x hx p => ?_⟩
    · unfold n_rg
      rw [decide_eq_true_eq]
      refine ⟨fun h => ?_, fun h => ?_, fun h => ?_⟩ <;> omega
    · rw [bs_4 hK] at hx
      have e : (145 : Int) = x := congrArg Prod.snd (Option.some.inj hx)
      rw [k11, ← e]
      rfl
  · have hK : K t = 2 ∧ W t = 5 := by omega
    rw [at_5 hK] at h8
    refine ⟨_, h8, n_is_at h0 h1 h2 ?_ (Or.inr (Or.inr (Or.inl ⟨by omega, rfl⟩))), p_kd_n (by omega) (by omega) (by omega) (by omega) (bs_n (by omega) (by omega))⟩
    unfold n_rg
    rw [decide_eq_true_eq]
    refine ⟨fun h => ?_, fun h => ?_, fun h => ?_⟩ <;> omega
  · have hK : K t = 2 ∧ W t = 6 := by omega
    rw [at_6 hK] at h8
    refine ⟨_, h8, n_is_at h0 h1 h2 ?_ (Or.inr (Or.inr (Or.inr ⟨by omega, rfl⟩))), p_kd_n (by omega) (by omega) (by omega) (by omega) (bs_n (by omega) (by omega))⟩
    unfold n_rg
    rw [decide_eq_true_eq]
    refine ⟨fun h => ?_, fun h => ?_, fun h => ?_⟩ <;> omega
/-- % r -/
theorem p_rg {R : Nat → Nat → Option Nat} {n n2 : Nat} {o : Int} (hk : (F c 0).toInt = 37) (hK : K t = 5 ∧ W t = 37) (h3 : K (t + 1) = 3) (hw : (L c 1).toInt = W (t + 1)) (w0 : 0 ≤ W (t + 1)) (w31 : W (t + 1) ≤ 31) (h0 : 176 ≤ n) (h1 : n ≤ c) (h2 : c < n2) : ∃ code, l_ev K W 8 o t (some (t + 2, code)) ∧ n_is F L R n n2 c 0 code ∧ p_kd K W t (t + 2) F L c := by
  have h8 : l_ev K W 8 o t (lc_at K W false t) := l_8 (by unfold lc_uy; rw [decide_eq_false_iff_not]; omega) (by omega)
  rw [at_r hK, if_pos ⟨h3, w31⟩] at h8
  have hb : lc_bs K W t = some (t + 2, 112 + W (t + 1)) := by rw [bs_r hK, if_pos ⟨h3, w31⟩]
  refine ⟨_, h8, n_is_at h0 h1 h2 ?_ (Or.inr (Or.inl ⟨Or.inr hk, by rw [hk, hw]; rfl⟩)), ⟨fun h => by omega, fun h => by omega⟩, fun h => by omega, ⟨fun _ => ⟨_, hb⟩, fun _ => Or.inl hk⟩, fun x hx p => ?_⟩
  · unfold n_rg
    rw [decide_eq_true_eq]
    refine ⟨fun h => ?_, fun h => ?_, fun h => ?_⟩ <;> omega
  · rw [hb] at hx
    have e : 112 + W (t + 1) = x := congrArg Prod.snd (Option.some.inj hx)
    rw [hk, hw, ← e]
    rfl
end KD
end
section
/-! THE CLASS'S PARSER over expressions: the heap's side; what stands alone. -/
def p_lv (e : Nat) (a1 : Int32) : Nat := match e with
  | 0 => 8
  | 1 => a1.toInt.toNat + 1
  | _ => 0
def p_P (K W : Nat → Int) (M g : Nat) : Prop := ∀ (e : Nat) (a1 : Int32) (n sl : Nat) (SH : Nat → Nat × Nat) (FI : Nat → Nat → Int32) (FL : Nat → Nat → Int64) (FR : Nat → Nat → Option Nat) (v : Option Nat) (s : hS) (t : Nat) (o : Int), h_S n SH → q_tk K W M FI FL → s_vw M FI FL t o → 0 ≤ o → o ≤ 12 → 0 ≤ a1.toInt → a1.toInt ≤ 7 → QX4 g e a1 n sl SH FI FL FR v s → p_res K W M n (p_lv e a1) o t v s
section PL
variable {K W : Nat → Int} {M : Nat} {n sl : Nat} {SH : Nat → Nat × Nat} {FI : Nat → Nat → Int32} {FL : Nat → Nat → Int64} {FR : Nat → Nat → Option Nat} {v : Option Nat} {s : hS} {t : Nat} {o : Int} {n2 : Nat} {SH2 : Nat → Nat × Nat} {F2 : Nat → Nat → Int32} {L2 : Nat → Nat → Int64} {R2 : Nat → Nat → Option Nat}
theorem q_b (hq : q_tk K W M FI FL) (h : b_ct n SH FI FL FR n2 SH2 F2 L2 R2) (h0 : 176 ≤ n) : q_tk K W M F2 L2 :=
  q_fr hq ⟨by funext k; exact h.2.2.1 112 k (by omega) (by omega), h.2.2.1 111 4 (by omega) (by omega), by funext k; exact h.2.2.2.1 113 k (by omega) (by omega)⟩
theorem s_new (h0 : 176 ≤ n) (h : b_ct n SH FI FL FR n2 SH2 F2 L2 R2) (e1 : F2 110 = FI 110) (e2 : L2 110 = FL 110) (hq : q_tk K W M FI FL) (hv : s_vw M FI FL t o) : q_tk K W M F2 L2 ∧ s_vw M F2 L2 t o := by
  refine ⟨q_b hq h h0, ?_⟩
  have e3 : F2 112 = FI 112 := by funext k; exact h.2.2.1 112 k (by omega) (by omega)
  have e4 : L2 113 = FL 113 := by funext k; exact h.2.2.2.1 113 k (by omega) (by omega)
  unfold s_vw
  rw [e1, e2, e3, e4]
  exact hv
theorem s_wI {c k : Nat} {x : Int32} (hc : 176 ≤ c) (h : q_tk K W M FI FL ∧ s_vw M FI FL t o) : q_tk K W M (h_up FI c k x) FL ∧ s_vw M (h_up FI c k x) FL t o := by
  have e0 : h_up FI c k x 110 = FI 110 := h_up_nc (by omega)
  have e1 : h_up FI c k x 111 = FI 111 := h_up_nc (by omega)
  have e2 : h_up FI c k x 112 = FI 112 := h_up_nc (by omega)
  refine ⟨q_fr h.1 ⟨e2, by rw [e1], rfl⟩, ?_⟩
  have h2 := h.2
  unfold s_vw at h2 ⊢
  rw [e0, e2]
  exact h2
theorem s_wL {c k : Nat} {x : Int64} (hc : 176 ≤ c) (h : q_tk K W M FI FL ∧ s_vw M FI FL t o) : q_tk K W M FI (h_up FL c k x) ∧ s_vw M FI (h_up FL c k x) t o := by
  have e0 : h_up FL c k x 110 = FL 110 := h_up_nc (by omega)
  have e2 : h_up FL c k x 113 = FL 113 := h_up_nc (by omega)
  refine ⟨q_fr h.1 ⟨rfl, rfl, e2⟩, ?_⟩
  have h2 := h.2
  unfold s_vw at h2 ⊢
  rw [e0, e2]
  exact h2
theorem s_low (hv : s_vw M FI FL t (o + 1)) (h0 : 0 ≤ o) (h12 : o ≤ 12) : s_vw M (h_up FI 110 4 ((FI 110 4) - (1 : Int32))) FL t o := by
  obtain ⟨v1, v2, v3, v4, v5, v6⟩ := hv
  refine ⟨?_, ?_, v3, ?_, v5, ?_⟩
  · rw [h_up_x (by decide)]; exact v1
  · rw [h_up_x (by decide)]; exact v2
  · rw [h_up_x (by decide), h_up_nc (by decide)]; exact v4
  · rw [h_up_eq, i_sub v6 (by decide : ((1 : Int32)).toInt = 1) (by omega) (by omega)]
    omega
theorem ft_4 {x : Int32} (h : s_ft FI) : s_ft (h_up FI 110 4 x) := ⟨by rw [h_up_x (by decide)]; exact h.1, by rw [h_up_x (by decide)]; exact h.2⟩
theorem ft_c {c k : Nat} {x : Int32} (hc : 176 ≤ c) (h : s_ft FI) : s_ft (h_up FI c k x) := by
  have e0 : h_up FI c k x 110 = FI 110 := h_up_nc (by omega)
  unfold s_ft
  rw [e0]
  exact h
/-- a fault stays -/
theorem b_F : ∀ (g e : Nat) (a1 : Int32) (n sl : Nat) (SH : Nat → Nat × Nat) (FI : Nat → Nat → Int32) (FL : Nat → Nat → Int64) (FR : Nat → Nat → Option Nat) (v : Option Nat) (s : hS), 0 ≤ a1.toInt → a1.toInt ≤ 7 → h_S n SH → s_ft FI → QX4 g e a1 n sl SH FI FL FR v s → ∃ c n2 sl2 SH2 F2 L2 R2, v = some c ∧ s = (n2, sl2, SH2, F2, L2, R2) ∧ h_S n2 SH2 ∧ s_ft F2 := by
  intro g
  induction g with
  | zero => intro e a1 n sl SH FI FL FR v s _ _ _ _ h; exact h.elim
  | succ g ih =>
    intro e a1 n sl SH FI FL FR v s ha0 ha7 hQ hf h
    have h176 := hQ.1
    match e, h with
    | 0, h =>
      obtain ⟨v0, n0, sl0, SH0, FI0, FL0, FR0, k0, v1, n1, sl1, SH1, FI1, FL1, FR1, k1, h⟩ := h
      obtain ⟨sl', SH', F', L', R', e, q0, q1, q2, q3⟩ := b_nw hQ k0
      cases e
      obtain ⟨-, e⟩ := k1
      cases e
      have ek : (h_up FI0 n 0 (FI0 110 8) n 0).toInt = 1 := by rw [h_up_eq, q2]; exact hf.2
      have hf0 : s_ft FI0 := by unfold s_ft; rw [q2]; exact hf
      have hf1 : s_ft (h_up FI0 n 0 (FI0 110 8)) := ft_c h176 hf0
      rcases h with ⟨hc, -⟩ | ⟨-, h⟩
      · exfalso; rw [ek] at hc; omega
      · rcases h with ⟨hc, -⟩ | ⟨-, h⟩
        · exfalso; rw [ek] at hc; omega
        · rcases h with ⟨hc, -⟩ | ⟨-, h⟩
          · exfalso; rw [ek] at hc; omega
          · rcases h with ⟨hc, -⟩ | ⟨-, h⟩
            · exfalso; rw [ek] at hc; omega
            · obtain ⟨v24, n24, sl24, SH24, FI24, FL24, FR24, hc, rfl, rfl⟩ := h
              have e := s_refuse_f hc hf1.1
              cases e
              exact ⟨n, _, _, _, _, _, _, rfl, rfl, q0.2.1, hf1⟩
    | 1, h =>
      rcases h with ⟨hc, h⟩ | ⟨-, h⟩
      · rw [show ((7 : Int32)).toInt = 7 by decide] at hc
        have ea : (a1 + (1 : Int32)).toInt = a1.toInt + 1 := i_add rfl (by decide) (by omega) (by omega)
        obtain ⟨v1, n1, sl1, SH1, FI1, FL1, FR1, hm, h⟩ := h
        obtain ⟨c, n9, sl9, SH9, F9, L9, R9, rfl, e, g1, g2⟩ := ih 1 _ _ _ _ _ _ _ _ _ (by omega) (by omega) hQ hf hm
        cases e
        rcases h with ⟨hs, -⟩ | ⟨-, rfl, rfl⟩
        · exfalso
          rw [c_lv, g2.2] at hs
          have : n_lv 1 = -1 := by decide
          omega
        · exact ⟨c, _, _, _, _, _, _, rfl, rfl, g1, g2⟩
      · obtain ⟨v8, n8, sl8, SH8, FI8, FL8, FR8, hm, rfl, rfl⟩ := h
        exact ih 0 0 _ _ _ _ _ _ _ _ (by decide) (by decide) hQ hf hm
    | e + 2, h =>
      obtain ⟨v0, n0, sl0, SH0, FI0, FL0, FR0, hm, h⟩ := h
      obtain ⟨c, n9, sl9, SH9, F9, L9, R9, rfl, e, g1, g2⟩ := ih 1 _ _ _ _ _ _ _ _ _ (by decide) (by decide) hQ hf hm
      cases e
      rcases h with ⟨hs, -⟩ | ⟨-, rfl, rfl⟩
      · exfalso
        rw [g2.2] at hs
        revert hs
        decide
      · exact ⟨c, _, _, _, _, _, _, rfl, rfl, g1, g2⟩
theorem p_get {g e : Nat} {a1 : Int32} (ih : p_P K W M g) (hQ : h_S n SH) (hq : q_tk K W M FI FL) (hv : s_vw M FI FL t o) (h0 : 0 ≤ o) (h12 : o ≤ 12) (ha0 : 0 ≤ a1.toInt) (ha7 : a1.toInt ≤ 7) (h : QX4 g e a1 n sl SH FI FL FR v s) : ∃ c n2 sl2 SH2 F2 L2 R2, v = some c ∧ s = (n2, sl2, SH2, F2, L2, R2) ∧ n ≤ c ∧ c < n2 ∧ b_ct n SH FI FL FR n2 SH2 F2 L2 R2 ∧ R2 c 6 = none ∧ p_ok K W M n (p_lv e a1) o t n2 F2 L2 R2 c := by
  obtain ⟨c, n2, sl2, SH2, F2, L2, R2, rfl, rfl, g1, g2, q1, q2⟩ := b_G g e a1 n sl SH FI FL FR v s hQ h
  obtain ⟨c', n', sl', SH', F', L', R', e1, e2, po⟩ := ih e a1 n sl SH FI FL FR _ _ t o hQ hq hv h0 h12 ha0 ha7 h
  cases e1
  cases e2
  exact ⟨c, n2, sl2, SH2, F2, L2, R2, rfl, rfl, g1, g2, q1, q2, po⟩
theorem p_un {g : Nat} (ih : p_P K W M g) (hQ : h_S n SH) (hq : q_tk K W M FI FL) (hv : s_vw M FI FL t o) (h0 : 0 ≤ o) (h12 : o ≤ 12) {a1 : Int32} (h : QX4 (g + 1) 0 a1 n sl SH FI FL FR v s) : p_res K W M n 8 o t v s := by
  have h176 := hQ.1
  obtain ⟨v0, n0, sl0, SH0, FI0, FL0, FR0, k0, v1, n1, sl1, SH1, FI1, FL1, FR1, k1, h⟩ := h
  obtain ⟨sl', SH', F', L', R', e, q0, q1, q2, q3⟩ := b_nw hQ k0
  cases e
  obtain ⟨-, e⟩ := k1
  cases e
  have hQ1 := q0.2.1
  have w1 := s_wL (c := n) (k := 1) (x := FL0 110 9) h176 (s_wI (c := n) (k := 0) (x := FI0 110 8) h176 (s_new h176 q0 q2 q3 hq hv))
  have kd := s_kd hq hv
  have ek : h_up FI0 n 0 (FI0 110 8) n 0 = FI 110 8 := by rw [h_up_eq, q2]
  have el : h_up FL0 n 1 (FL0 110 9) n 1 = FL 110 9 := by rw [h_up_eq, q3]
  rcases h with ⟨hc, h⟩ | ⟨hc, h⟩
  · -- a number, fb, cfa, obj
    rw [ek] at hc
    obtain ⟨v3, n3, sl3, SH3, FI3, FL3, FR3, hk, rfl, rfl⟩ := h
    rcases kd with ⟨ht, kd, -, kr, k3, k4⟩ | ⟨-, -, kd⟩
    · obtain ⟨F3, L3, e, a3, w3⟩ := s_take hk w1.1 w1.2 ht
      cases e
      have e0 : FI3 n 0 = FI 110 8 := (a3.1 n 0 (by omega)).trans ek
      have e1 : FL3 n 1 = FL 110 9 := (a3.2 n 1 (by omega)).trans el
      obtain ⟨code, c1, c2, c3⟩ := p_at (F := FI3) (L := FL3) (R := FR0) (c := n) (n := n) (n2 := n + 1) (o := o) (t := t) (by rw [e0]; exact kd) kr (by omega) (by rw [e1]; exact k3) h176 (Nat.le_refl _) (by omega)
      exact ⟨n, _, _, _, _, _, _, rfl, rfl, Or.inl ⟨t + 1, code, c1, by omega, w3, n_is_w c2 h176 (Nat.le_refl _) (Nat.le_refl _) (Nat.zero_le _), c3, fun h => by omega⟩⟩
    · exfalso; omega
  · rw [ek] at hc
    rcases h with ⟨hc2, h⟩ | ⟨hc2, h⟩
    · -- a sign ahead
      rw [ek] at hc2
      obtain ⟨v5, n5, sl5, SH5, FI5, FL5, FR5, hk, h⟩ := h
      obtain ⟨F5, e, a5, r5⟩ := s_raise hk w1.1 w1.2 h0
      cases e
      rcases kd with ⟨ht, kd, -, kr, k3, k4⟩ | ⟨-, -, kd⟩
      · have hu : lc_uy (K t) (W t) = true := (ck_un kr).1.mpr (by omega)
        rcases h with ⟨hz, rfl, rfl⟩ | ⟨hz, h⟩
        · rcases r5 with ⟨-, w, -⟩ | ⟨ho, -, ft⟩
          · exfalso; omega
          · exact ⟨n, _, _, _, _, _, _, rfl, rfl, Or.inr ⟨l_8n (Or.inl hu) ho, ft⟩⟩
        · rcases r5 with ⟨ho, -, w5⟩ | ⟨-, w, -⟩
          · obtain ⟨v7, n7, sl7, SH7, FI7, FL7, FR7, hc7, v8, n8, sl8, SH8, FI8, FL8, FR8, hm, rfl, rfl⟩ := h
            have q5 := q_a w1.1 a5
            obtain ⟨F7, L7, e, a7, w7⟩ := s_take hc7 q5 w5 ht
            cases e
            have q7 := q_a q5 a7
            obtain ⟨c, n9, sl9, SH9, F9, L9, R9, rfl, e, g1, g2, q8, q9, po⟩ := p_get (e := 0) (a1 := 0) ih hQ1 q7 w7 (by omega) (by omega) (by decide) (by decide) hm
            cases e
            have po : p_ok K W M (n + 1) 8 (o + 1) (t + 1) _ _ _ _ c := po
            rcases po with ⟨t2, code, lev, ht2, w8, nis, pk, -⟩ | ⟨lev, ft⟩
            · have m8 := q8.1
              have e0 : FI8 n 0 = FI 110 8 := ((q8.2.2.1 n 0 (by omega) (by omega)).trans (a7.1 n 0 (by omega))).trans ((a5.1 n 0 (by omega)).trans ek)
              have e1 : FL8 n 1 = FL 110 9 := ((q8.2.2.2.1 n 1 (by omega) (by omega)).trans (a7.2 n 1 (by omega))).trans ((a5.2 n 1 (by omega)).trans el)
              have e0' : h_up FI8 110 4 ((FI8 110 4) - (1 : Int32)) n 0 = FI 110 8 := by rw [h_up_nc (by omega)]; exact e0
              have ce := ck_e kr
              have nis2 : n_is (h_up FI8 110 4 ((FI8 110 4) - (1 : Int32))) FL8 (h_up FR8 n 3 (some c)) (n + 1) n8 c (p_H 8 (o + 1)) code := n_is_fr nis ⟨fun q k b1 b2 _ _ => by rw [h_up_nc (by omega)], fun q k b1 b2 _ => rfl, fun q k b1 b2 _ _ => by rw [h_up_nc (by omega)]⟩
              have nis3 := n_is_un (lo := n) (hi := n8) (c := n) h176 (Nat.le_refl _) (by omega) (by rw [e0', e1]; unfold n_rg; rw [decide_eq_true_eq]; refine ⟨fun h => ?_, fun h => ?_, fun h => ?_⟩ <;> omega) (by rw [e0']; omega) h_up_eq nis2 (by omega) (Nat.le_refl _) (by omega)
              rw [e0', e1, kd, (ck_un kr).2 hu _ (fun h4 => (k4 h4).1)] at nis3
              refine ⟨n, _, _, _, _, _, _, rfl, rfl, Or.inl ⟨t2, _, l_8u hu ho lev, by omega, s_low w8 h0 h12, n_is_w nis3 h176 (Nat.le_refl _) (Nat.le_refl _) (by unfold p_H; omega), p_kd_n (by rw [e0']; omega) (by rw [e0']; omega) (by rw [e0']; omega) (by omega) (bs_n (by omega) (by omega)), fun h => by omega⟩⟩
            · exact ⟨n, _, _, _, _, _, _, rfl, rfl, Or.inr ⟨l_8u hu ho lev, ft_4 ft⟩⟩
          · exfalso; omega
      · exfalso; omega
    · rw [ek] at hc2
      rcases h with ⟨hc3, h⟩ | ⟨hc3, h⟩
      · -- % r
        rw [ek] at hc3
        obtain ⟨v12, n12, sl12, SH12, FI12, FL12, FR12, hk, v13, n13, sl13, SH13, FI13, FL13, FR13, hk2, v15, n15, sl15, SH15, FI15, FL15, FR15, hk3, rfl, rfl⟩ := h
        rcases kd with ⟨ht, kd, -, kr, k3, k4⟩ | ⟨-, -, kd⟩
        · have ce := ck_e kr
          have hK : K t = 5 ∧ W t = 37 := by omega
          have hu : lc_uy (K t) (W t) = false := by unfold lc_uy; rw [decide_eq_false_iff_not]; omega
          have h8 : l_ev K W 8 o t (lc_at K W false t) := l_8 hu (by omega)
          rw [at_r hK] at h8
          obtain ⟨F12, L12, e, a12, w12⟩ := s_take hk w1.1 w1.2 ht
          cases e
          have q12 := q_a w1.1 a12
          have kd2 := s_kd q12 w12
          have e0 : FI12 n 0 = FI 110 8 := (a12.1 n 0 (by omega)).trans ek
          rcases hk2 with ⟨h5, hk2⟩ | ⟨h5, rfl, e⟩
          · rw [show ((5 : Int32)).toInt = 5 by decide] at h5
            rcases kd2 with ⟨ht2, kd2, -, kr2, k32, -⟩ | ⟨-, -, kd2⟩
            · have ce2 := ck_e kr2
              have hK2 : K (t + 1) = 3 := by omega
              obtain ⟨j1, j2, j3⟩ := k32 hK2
              rcases hk2 with ⟨h32, rfl, e⟩ | ⟨h32, hk2⟩
              · rw [show ((32 : Int64)).toInt = 32 by decide] at h32
                cases e
                obtain ⟨q13, w13⟩ := s_wL (c := n) (k := 1) (x := FL12 110 9) h176 ⟨q12, w12⟩
                obtain ⟨F15, L15, e, a15, r15⟩ := s_expect (w := 5) hk3 (by decide) (by decide) q13 w13
                cases e
                rcases r15 with ⟨-, -, w15⟩ | ⟨r, -⟩
                · have e15 : FI15 n 0 = FI 110 8 := (a15.1 n 0 (by omega)).trans e0
                  have l15 : (FL15 n 1).toInt = W (t + 1) := by rw [a15.2 n 1 (by omega), h_up_eq]; exact j1
                  obtain ⟨code, c1, c2, c3⟩ := p_rg (F := FI15) (L := FL15) (R := FR0) (c := n) (n := n) (n2 := n + 1) (o := o) (t := t) (by rw [e15]; exact hc3) hK hK2 l15 j2 (by omega) h176 (Nat.le_refl _) (by omega)
                  exact ⟨n, _, _, _, _, _, _, rfl, rfl, Or.inl ⟨t + 2, code, c1, by omega, w15, n_is_w c2 h176 (Nat.le_refl _) (Nat.le_refl _) (Nat.zero_le _), c3, fun h => by omega⟩⟩
                · exfalso
                  have := r ht2
                  omega
              · rw [show ((32 : Int64)).toInt = 32 by decide] at h32
                obtain ⟨v2, n2', sl2', SH2', FI2', FL2', FR2', hr, rfl, e⟩ := hk2
                obtain ⟨F3, e', a3, ft⟩ := s_refuse hr (by decide) q12 w12
                cases e'
                cases e
                have e := s_expect_f hk3 ft.1
                cases e
                rw [if_neg (by omega)] at h8
                exact ⟨n, _, _, _, _, _, _, rfl, rfl, Or.inr ⟨h8, ft⟩⟩
            · exfalso; omega
          · rw [show ((5 : Int32)).toInt = 5 by decide] at h5
            cases e
            obtain ⟨q13, w13⟩ := s_wL (c := n) (k := 1) (x := FL12 110 9) h176 ⟨q12, w12⟩
            obtain ⟨F15, L15, e, a15, r15⟩ := s_expect (w := 5) hk3 (by decide) (by decide) q13 w13
            cases e
            have n3 : K (t + 1) ≠ 3 := by
              rcases kd2 with ⟨-, kd2, -, kr2, -, -⟩ | ⟨e, kK, -⟩
              · intro h3
                have ce2 := ck_e kr2
                omega
              · omega
            rw [if_neg (fun h => n3 h.1)] at h8
            rcases r15 with ⟨ht2, r, -⟩ | ⟨-, ft⟩
            · exfalso
              rcases kd2 with ⟨-, kd2, -, kr2, -, -⟩ | ⟨e, kK, -⟩
              · omega
              · omega
            · exact ⟨n, _, _, _, _, _, _, rfl, rfl, Or.inr ⟨h8, ft⟩⟩
        · exfalso; omega
      · rw [ek] at hc3
        rcases h with ⟨hc4, h⟩ | ⟨hc4, h⟩
        · -- a parenthesis
          rw [ek] at hc4
          obtain ⟨v5, n5, sl5, SH5, FI5, FL5, FR5, hk, h⟩ := h
          obtain ⟨F5, e, a5, r5⟩ := s_raise hk w1.1 w1.2 h0
          cases e
          rcases kd with ⟨ht, kd, -, kr, k3, k4⟩ | ⟨-, -, kd⟩
          · have ce := ck_e kr
            have hK : K t = 5 ∧ W t = 40 := by omega
            rcases h with ⟨hz, rfl, rfl⟩ | ⟨hz, h⟩
            · rcases r5 with ⟨-, w, -⟩ | ⟨ho, -, ft⟩
              · exfalso; omega
              · exact ⟨n, _, _, _, _, _, _, rfl, rfl, Or.inr ⟨l_8n (Or.inr hK) ho, ft⟩⟩
            · rcases r5 with ⟨ho, -, w5⟩ | ⟨-, w, -⟩
              · obtain ⟨v7, n7, sl7, SH7, FI7, FL7, FR7, hc7, v8, n8, sl8, SH8, FI8, FL8, FR8, hm, v22, n22, sl22, SH22, FI22, FL22, FR22, hc8, rfl, rfl⟩ := h
                have q5 := q_a w1.1 a5
                obtain ⟨F7, L7, e, a7, w7⟩ := s_take hc7 q5 w5 ht
                cases e
                have q7 := q_a q5 a7
                obtain ⟨c, n9, sl9, SH9, F9, L9, R9, rfl, e, g1, g2, q8, q9, po⟩ := p_get (e := 2) (a1 := 0) ih hQ1 q7 w7 (by omega) (by omega) (by decide) (by decide) hm
                cases e
                have po : p_ok K W M (n + 1) 0 (o + 1) (t + 1) _ _ _ _ c := po
                rcases po with ⟨t2, code, lev, ht2, w8, nis, pk, -⟩ | ⟨lev, ft⟩
                · have m8 := q8.1
                  have hq8 := q_b q7 q8 (by omega)
                  obtain ⟨F22, L22, e, a22, r22⟩ := s_expect (w := 41) hc8 (by decide) (by decide) hq8 w8
                  cases e
                  have l8 : l_ev K W 8 o t (if K t2 = 5 ∧ W t2 = 41 then some (t2 + 1, code) else none) := l_8p hK ho lev
                  rcases r22 with ⟨ht3, r, w22⟩ | ⟨r, ft⟩
                  · have kr2 := (hq8.2.1 t2 ht3).2.1
                    have ce2 := ck_e kr2
                    rw [if_pos (by omega)] at l8
                    have e0 : FI22 n 0 = FI 110 8 := (a22.1 n 0 (by omega)).trans (((q8.2.2.1 n 0 (by omega) (by omega)).trans (a7.1 n 0 (by omega))).trans ((a5.1 n 0 (by omega)).trans ek))
                    have e0' : h_up FI22 110 4 ((FI22 110 4) - (1 : Int32)) n 0 = FI 110 8 := by rw [h_up_nc (by omega)]; exact e0
                    have nis2 : n_is (h_up FI22 110 4 ((FI22 110 4) - (1 : Int32))) FL22 (h_up FR8 n 3 (some c)) (n + 1) n8 c (p_H 0 (o + 1)) code := n_is_fr nis ⟨fun q k b1 b2 _ _ => by rw [h_up_nc (by omega)]; exact a22.1 q k (by omega), fun q k b1 b2 _ => a22.2 q k (by omega), fun q k b1 b2 _ _ => by rw [h_up_nc (by omega)]⟩
                    have nis3 := n_is_un (lo := n) (hi := n8) (c := n) h176 (Nat.le_refl _) (by omega) (by rw [e0']; unfold n_rg; rw [decide_eq_true_eq]; refine ⟨fun h => ?_, fun h => ?_, fun h => ?_⟩ <;> omega) (by rw [e0']; omega) h_up_eq nis2 (by omega) (Nat.le_refl _) (by omega)
                    have en : n_un (h_up FI22 110 4 ((FI22 110 4) - (1 : Int32)) n 0).toInt (FL22 n 1).toInt = [] := by rw [e0', hc4]; rfl
                    rw [en, List.append_nil] at nis3
                    refine ⟨n, _, _, _, _, _, _, rfl, rfl, Or.inl ⟨t2 + 1, _, l8, by omega, s_low w22 h0 h12, n_is_w nis3 h176 (Nat.le_refl _) (Nat.le_refl _) (by unfold p_H; omega), p_kd_n (by rw [e0']; omega) (by rw [e0']; omega) (by rw [e0']; omega) (by omega) (bs_n (by omega) (by omega)), fun h => by omega⟩⟩
                  · have n41 : ¬ (K t2 = 5 ∧ W t2 = 41) := by
                      intro h41
                      rcases s_kd hq8 w8 with ⟨k1, -, -, kr2, -⟩ | ⟨-, k1, -⟩
                      · have ce2 := ck_e kr2
                        have := r k1
                        omega
                      · omega
                    rw [if_neg n41] at l8
                    exact ⟨n, _, _, _, _, _, _, rfl, rfl, Or.inr ⟨l8, ft_4 ft⟩⟩
                · have e := s_expect_f hc8 ft.1
                  cases e
                  exact ⟨n, _, _, _, _, _, _, rfl, rfl, Or.inr ⟨l_8p hK ho lev, ft_4 ft⟩⟩
              · exfalso; omega
          · exfalso; omega
        · -- nothing of these
          rw [ek] at hc4
          obtain ⟨v24, n24, sl24, SH24, FI24, FL24, FR24, hk, rfl, rfl⟩ := h
          obtain ⟨F4, e, a4, ft⟩ := s_refuse hk (by decide) w1.1 w1.2
          cases e
          refine ⟨n, _, _, _, _, _, _, rfl, rfl, Or.inr ⟨?_, ft⟩⟩
          have hn : lc_uy (K t) (W t) = false ∧ ¬ (K t = 5 ∧ W t = 40) ∧ lc_at K W false t = none := by
            rcases kd with ⟨ht, kd, -, kr, k3, k4⟩ | ⟨-, kK, -⟩
            · have ce := ck_e kr
              refine ⟨?_, by omega, at_n (by omega) (by omega) (by omega) (by omega) (by omega)⟩
              cases hu : lc_uy (K t) (W t) with
              | false => rfl
              | true =>
                exfalso
                have := (ck_un kr).1.mp hu
                omega
            · exact ⟨by unfold lc_uy; rw [decide_eq_false_iff_not]; omega, by omega, at_n (by omega) (by omega) (by omega) (by omega) (by omega)⟩
          have h8 : l_ev K W 8 o t (lc_at K W false t) := l_8 hn.1 hn.2.1
          rw [hn.2.2] at h8
          exact h8
end PL
end
section
/-! THE CLASS'S PARSER over expressions: chains. -/
section PN
variable {K W : Nat → Int} {M : Nat} {n sl : Nat} {SH : Nat → Nat × Nat} {FI : Nat → Nat → Int32} {FL : Nat → Nat → Int64} {FR : Nat → Nat → Option Nat} {v : Option Nat} {s : hS} {t t1 t2 l : Nat} {o : Int} {r : Option (Nat × List Int)} {ca ce : List Int}
/-- a link's bytes -/
theorem p_tm {e : Nat} (pke : p_kd K W (t1 + 1) t2 FI FL e) (sg : (FI e 2).toInt = t_ck (K t1) (W t1)) (kr : k_rg (K t1) (W t1)) (hb : au_bn (K t1) (W t1) = (l : Int)) (h1 : 1 ≤ l) (lev : l_ev K W (l + 1) o (t1 + 1) (some (t2, ce))) (hn : l + 1 = 7 → au_bn (K t2) (W t2) ≠ 7) : n_tm FI FL e ce = l_tm K W l t1 ce := by
  have ce1 := ck_e kr
  unfold n_tm
  by_cases h : (FI e 2).toInt = 43 ∧ (FI e 0).toInt = 5
  · have hK : K t1 = 5 ∧ W t1 = 43 := by omega
    have b6 := bn_6.mpr (⟨hK.1, Or.inl hK.2⟩ : K t1 = 5 ∧ (W t1 = 43 ∨ W t1 = 45))
    have l6 : l = 6 := by omega
    have k5 := pke.1.mp h.2
    have hal : lc_al K W (t1 + 1) = true := by
      unfold lc_al
      rw [decide_eq_true_eq]
      refine ⟨k5.1, ?_⟩
      rw [← k5.2]
      exact hn (by omega)
    unfold l_tm
    rw [if_pos h, if_pos (by rw [hal, Bool.and_true, decide_eq_true_eq]; exact ⟨l6, hK.2⟩), pke.2.1 k5]
  · rw [if_neg h]
    unfold l_tm
    rw [if_neg, sg, (ck_lv kr).2 (by omega)]
    intro hh
    obtain ⟨l6, e1⟩ := l_al2 hh lev
    have e2 : t2 = t1 + 2 := congrArg Prod.fst (Option.some.inj e1)
    rw [Bool.and_eq_true, decide_eq_true_eq] at hh
    obtain ⟨⟨-, w43⟩, hal⟩ := hh
    unfold lc_al at hal
    rw [decide_eq_true_eq] at hal
    have b6 := (bn_6 (k := K t1) (w := W t1)).mp (by omega)
    exact h ⟨by omega, pke.1.mpr ⟨hal.1, by omega⟩⟩
/-- the first two of a chain -/
theorem p_fst {a e : Nat} (pka : p_kd K W t t1 FI FL a) (pke : p_kd K W (t1 + 1) t2 FI FL e) (sg : (FI e 2).toInt = t_ck (K t1) (W t1)) (kr : k_rg (K t1) (W t1)) (hb : au_bn (K t1) (W t1) = (l : Int)) (h1 : 1 ≤ l) (h7 : l ≤ 7) (leva : l_ev K W (l + 1) o t (some (t1, ca))) (leve : l_ev K W (l + 1) o (t1 + 1) (some (t2, ce))) (hn : l + 1 = 7 → au_bn (K t2) (W t2) ≠ 7) (hp : l_px K W l o t2 (if ((FI a 0).toInt = 37 ∨ (FI a 0).toInt = 11) ∧ (FI e 0).toInt = 5 ∧ ((FI e 2).toInt = 43 ∨ (FI e 2).toInt = 45) then n_bs (FI a 0).toInt (FL a 1).toInt (n_sg (FI e 2).toInt (FL e 1).toInt) else ca ++ n_tm FI FL e ce) r) : l_ev K W l o t r := by
  have ce1 := ck_e kr
  by_cases h : ((FI a 0).toInt = 37 ∨ (FI a 0).toInt = 11) ∧ (FI e 0).toInt = 5 ∧ ((FI e 2).toInt = 43 ∨ (FI e 2).toInt = 45)
  · rw [if_pos h] at hp
    have hK : K t1 = 5 ∧ (W t1 = 43 ∨ W t1 = 45) := by omega
    have b6 := bn_6.mpr hK
    have l6 : l = 6 := by omega
    subst l6
    have k5 := pke.1.mp h.2.1
    have hal : lc_al K W (t1 + 1) = true := by
      unfold lc_al
      rw [decide_eq_true_eq]
      refine ⟨k5.1, ?_⟩
      rw [← k5.2]
      exact hn (by omega)
    obtain ⟨x, hx⟩ := pka.2.2.1.mp h.1
    have hcm : lc_cm K W t = true := by
      unfold lc_cm
      rw [hx]
      show lc_ad K W t1 = true
      unfold lc_ad
      rw [hal, Bool.and_true, decide_eq_true_eq]
      exact hK
    have es : n_sg (FI e 2).toInt (FL e 1).toInt = lc_sg K W t1 := by
      unfold n_sg lc_sg
      rw [pke.2.1 k5]
      rcases hK.2 with w | w
      · rw [if_neg (by omega), if_pos w]
      · rw [if_pos (by omega), if_neg (by omega)]
    rw [pka.2.2.2 x hx, es, show t2 = t1 + 2 by omega] at hp
    exact l_cmv hcm hx hp
  · rw [if_neg h, p_tm pke sg kr hb h1 leve hn] at hp
    refine l_lv h1 h7 (fun hh => ?_) leva (l_step hb leve hp)
    obtain ⟨b, x, k1, k2, k3, k4, -⟩ := l_cm_e hh.2
    obtain ⟨rfl, -⟩ := hh
    have e1 : t1 = b := congrArg Prod.fst (Option.some.inj (l_ev_u leva (k4 o)))
    subst e1
    have e2 : t2 = t1 + 1 + 1 := congrArg Prod.fst (Option.some.inj (l_ev_u leve (l_al7 k3)))
    unfold lc_al at k3
    rw [decide_eq_true_eq] at k3
    exact h ⟨pka.2.2.1.mpr ⟨x, k1⟩, pke.1.mpr ⟨k3.1, e2⟩, by omega⟩
/-- a fault ends a chain -/
theorem p_lf {M0 M2 : Nat → Nat → (Nat → Nat × Nat) → (Nat → Nat → Int32) → (Nat → Nat → Int64) → (Nat → Nat → Option Nat) → Option Nat → hS → Prop} {M1 : Int32 → Nat → Nat → (Nat → Nat × Nat) → (Nat → Nat → Int32) → (Nat → Nat → Int64) → (Nat → Nat → Option Nat) → Option Nat → hS → Prop} {a1 l5 l6 : Int32} {gl : Nat} {x y : Option Nat} (ha0 : 0 ≤ a1.toInt) (hf : s_ft FI) (h : GX4_readLevel_68 M0 M1 M2 a1 gl x y l5 l6 n sl SH FI FL FR v s) : v = x ∧ s = (n, sl, SH, FI, FL, FR) := by
  cases gl with
  | zero => exact h.elim
  | succ gl =>
    rcases h with ⟨-, h⟩ | ⟨-, rfl, rfl⟩
    · rcases h with ⟨hs, -⟩ | ⟨-, rfl, rfl⟩
      · exfalso
        rw [c_lv, hf.2] at hs
        have : n_lv 1 = -1 := by decide
        omega
      · exact ⟨rfl, rfl⟩
    · exact ⟨rfl, rfl⟩
/-- how the sign in hand binds -/
theorem s_bn (hq : q_tk K W M FI FL) (hv : s_vw M FI FL t o) : n_lv (FI 110 8).toInt + 1 = au_bn (K t) (W t) := by
  rcases s_kd hq hv with ⟨-, kd, -, kr, -⟩ | ⟨-, kK, kd⟩
  · rw [kd]; exact (ck_lv kr).1
  · rw [au_bn_o (by omega) (by omega)]
    rcases kd with kd | kd | kd <;> rw [kd] <;> decide
/-- the links of a chain behind the first two -/
theorem p_lp {g : Nat} (ih : p_P K W M g) {a1 : Int32} (hl : l = a1.toInt.toNat + 1) (ha0 : 0 ≤ a1.toInt) (ha7 : a1.toInt < 7) {x a : Nat} (h0 : 0 ≤ o) (h12 : o ≤ 12) (h176 : 176 ≤ n) (hnx : n ≤ x) : ∀ (gl last : Nat) (l5 l6 : Int32) (n1 sl1 : Nat) (SH1 : Nat → Nat × Nat) (F1 : Nat → Nat → Int32) (L1 : Nat → Nat → Int64) (R1 : Nat → Nat → Option Nat) (v : Option Nat) (s : hS) (t1 : Nat) (code : List Int), GX4_readLevel_68 (fun n sl SH FI FL FR => QX4 g 0 0 n sl SH FI FL FR) (fun a1 n sl SH FI FL FR => QX4 g 1 a1 n sl SH FI FL FR) (fun n sl SH FI FL FR => QX4 g 2 0 n sl SH FI FL FR) a1 gl (some x) (some last) l5 l6 n1 sl1 SH1 F1 L1 R1 v s → h_S n1 SH1 → q_tk K W M F1 L1 → s_vw M F1 L1 t1 o → x < n1 → n_cw F1 L1 R1 n n1 x a last (p_H (l + 1) o) code → (F1 x 0).toInt = 25 → R1 x 3 = some a → R1 last 6 = none → (l = 4 → l5.toInt ≤ l6.toInt) → (l ≠ 4 → l5.toInt = 1000 ∧ 0 ≤ l6.toInt ∧ l6.toInt ≤ t1) → ∃ n2 sl2 SH2 F2 L2 R2, v = some x ∧ s = (n2, sl2, SH2, F2, L2, R2) ∧ ((∃ t2 code2, l_px K W l o t1 code (some (t2, code2)) ∧ t1 ≤ t2 ∧ s_vw M F2 L2 t2 o ∧ n_is F2 L2 R2 n n2 x (p_H l o) code2 ∧ (F2 x 0).toInt = 25 ∧ (l ≠ 4 → au_bn (K t2) (W t2) ≠ (l : Int))) ∨ (l_px K W l o t1 code none ∧ s_ft F2)) := by
  intro gl
  induction gl with
  | zero => intro last l5 l6 n1 sl1 SH1 F1 L1 R1 v s t1 code h; exact h.elim
  | succ gl ihl =>
    intro last l5 l6 n1 sl1 SH1 F1 L1 R1 v s t1 code h hQ hq hv hx hw hk h3 h6 i4 i5
    have hM := hq.1
    have htM := hv.2.2.1
    have bn := s_bn hq hv
    have hH : p_H (l + 1) o + 1 = p_H l o := by unfold p_H; omega
    have nis := n_is_cw hw hnx hx hk h3 h6
    rw [hH] at nis
    rcases h with ⟨hi, h⟩ | ⟨hi, rfl, rfl⟩
    · have l4 : l ≠ 4 := fun e => by have := i4 e; omega
      obtain ⟨j1, j2, j3⟩ := i5 l4
      rcases h with ⟨hs, h⟩ | ⟨hs, rfl, rfl⟩
      · rw [c_lv] at hs
        have hb : au_bn (K t1) (W t1) = (l : Int) := by omega
        obtain ⟨v3, n3, sl3, SH3, FI3, FL3, FR3, hc, v4, n4, sl4, SH4, FI4, FL4, FR4, hm, c6, e6, c7, e7, c8, e8, hK⟩ := h
        cases e6
        cases e7
        rcases s_kd hq hv with ⟨ht, kd, -, kr, -, -⟩ | ⟨-, kK, -⟩
        · obtain ⟨F3, L3, e, a3, w3⟩ := s_take hc hq hv ht
          cases e
          have q3 := q_a hq a3
          have ea : (a1 + (1 : Int32)).toInt = a1.toInt + 1 := i_add rfl (by decide) (by omega) (by omega)
          obtain ⟨c, n9, sl9, SH9, F9, L9, R9, rfl, e, g1, g2, q4, q5, po⟩ := p_get (e := 1) ih hQ q3 w3 h0 h12 (by omega) (by omega) hm
          cases e
          have el : p_lv 1 (a1 + (1 : Int32)) = l + 1 := by show (a1 + (1 : Int32)).toInt.toNat + 1 = l + 1; rw [ea]; omega
          rw [el] at po
          rw [h_up_eq] at e8 hK
          cases e8
          have b1 := hw.2.1
          have b2 := hw.2.2.1
          have b3 := hw.2.2.2.1
          have m4 := q4.1
          rcases po with ⟨t2, ce, lev, ht2, w4, ni4, pk, h7⟩ | ⟨lev, ft⟩
          · have hw2 : n_cw (h_up FI4 c8 2 (F1 110 8)) FL4 (h_up FR4 last 6 (some c8)) n n1 x a last (p_H (l + 1) o) code := n_cw_fr hw ⟨fun q k y1 y2 _ => by rw [h_up_nc (by omega), q4.2.2.1 q k (by omega) (by omega)]; exact a3.1 q k (by omega), fun q k y1 y2 _ => by rw [q4.2.2.2.1 q k (by omega) (by omega)]; exact a3.2 q k (by omega), fun q k y1 y2 _ y4 => by rw [h_up_x y4]; exact q4.2.2.2.2.1 q k (by omega)⟩
            have ni5 : n_is (h_up FI4 c8 2 (F1 110 8)) FL4 (h_up FR4 last 6 (some c8)) n1 n4 c8 (p_H (l + 1) o) ce := n_is_fr ni4 ⟨fun q k y1 y2 _ y4 => by rw [h_up_x y4], fun q k y1 y2 _ => rfl, fun q k y1 y2 _ y4 => by rw [h_up_nc (by omega)]⟩
            have hw3 := n_cw_s hw2 ni5 h_up_eq (Nat.le_refl _) hx
            have pk2 : p_kd K W (t1 + 1) t2 (h_up FI4 c8 2 (F1 110 8)) FL4 c8 := p_kd_fr pk (h_up_ne (by decide)) rfl
            have sg : (h_up FI4 c8 2 (F1 110 8) c8 2).toInt = t_ck (K t1) (W t1) := by rw [h_up_eq]; exact kd
            rw [p_tm pk2 sg kr hb (by omega) lev h7] at hw3
            obtain ⟨q6, w6⟩ := s_wI (c := c8) (k := 2) (x := F1 110 8) (by omega) ⟨q_b q3 q4 (by omega), w4⟩
            have e66 : (l6 + (1 : Int32)).toInt = l6.toInt + 1 := i_add rfl (by decide) (by omega) (by omega)
            obtain ⟨n7, sl7, SH7, F7, L7, R7, rfl, rfl, res⟩ := ihl c8 l5 _ n4 sl4 SH4 _ FL4 _ v s t2 _ hK q4.2.1 q6 w6 (by omega) hw3 (by rw [h_up_nc (by omega), q4.2.2.1 x 0 (by omega) (by omega), a3.1 x 0 (by omega)]; exact hk) (by rw [h_up_x (by omega), q4.2.2.2.2.1 x 3 (by omega)]; exact h3) (by rw [h_up_nc (by omega)]; exact q5) (fun e => absurd e l4) (fun _ => ⟨j1, by omega, by omega⟩)
            refine ⟨_, _, _, _, _, _, rfl, rfl, ?_⟩
            rcases res with ⟨t3, code3, p1, p2, p3⟩ | ⟨p1, p2⟩
            · exact Or.inl ⟨t3, code3, ⟨fun e => absurd e l4, fun _ => l_step hb lev p1⟩, by omega, p3⟩
            · exact Or.inr ⟨⟨fun e => absurd e l4, fun _ => l_step hb lev p1⟩, p2⟩
          · obtain ⟨rfl, rfl⟩ := p_lf ha0 (ft_c (by omega) ft) hK
            exact ⟨_, _, _, _, _, _, rfl, rfl, Or.inr ⟨⟨fun e => absurd e l4, fun _ => l_stepn hb lev⟩, ft_c (by omega) ft⟩⟩
        · exfalso
          rw [au_bn_o (by omega) (by omega)] at hb
          omega
      · rw [c_lv] at hs
        have hb : au_bn (K t1) (W t1) ≠ (l : Int) := by omega
        exact ⟨_, _, _, _, _, _, rfl, rfl, Or.inl ⟨t1, code, ⟨fun e => absurd e l4, fun _ => l_stop hb⟩, Nat.le_refl _, hv, nis, hk, fun _ => hb⟩⟩
    · by_cases l4 : l = 4
      · exact ⟨_, _, _, _, _, _, rfl, rfl, Or.inl ⟨t1, code, ⟨fun _ => rfl, fun e => absurd l4 e⟩, Nat.le_refl _, hv, nis, hk, fun e => absurd l4 e⟩⟩
      · obtain ⟨j1, j2, j3⟩ := i5 l4
        have hb : au_bn (K t1) (W t1) ≠ (l : Int) := by
          rcases s_kd hq hv with ⟨ht, -⟩ | ⟨-, kK, -⟩
          · omega
          · rw [au_bn_o (by omega) (by omega)]
            omega
        exact ⟨_, _, _, _, _, _, rfl, rfl, Or.inl ⟨t1, code, ⟨fun e => absurd e l4, fun _ => l_stop hb⟩, Nat.le_refl _, hv, nis, hk, fun _ => hb⟩⟩
theorem p_le {g : Nat} (ih : p_P K W M g) (hQ : h_S n SH) (hq : q_tk K W M FI FL) (hv : s_vw M FI FL t o) (h0 : 0 ≤ o) (h12 : o ≤ 12) {a1 : Int32} (ha0 : 0 ≤ a1.toInt) (ha7 : a1.toInt ≤ 7) (h : QX4 (g + 1) 1 a1 n sl SH FI FL FR v s) : p_res K W M n (a1.toInt.toNat + 1) o t v s := by
  have h176 := hQ.1
  obtain ⟨l, hl⟩ : ∃ l : Nat, l = a1.toInt.toNat + 1 := ⟨_, rfl⟩
  rw [← hl]
  rcases h with ⟨hc, h⟩ | ⟨hc, h⟩
  · rw [show ((7 : Int32)).toInt = 7 by decide] at hc
    have ea : (a1 + (1 : Int32)).toInt = a1.toInt + 1 := i_add rfl (by decide) (by omega) (by omega)
    have el : p_lv 1 (a1 + (1 : Int32)) = l + 1 := by show (a1 + (1 : Int32)).toInt.toNat + 1 = l + 1; rw [ea]; omega
    obtain ⟨v1, n1, sl1, SH1, FI1, FL1, FR1, hm, h⟩ := h
    obtain ⟨c, n9, sl9, SH9, F9, L9, R9, rfl, e, g1, g2, q1, q2, po⟩ := p_get (e := 1) ih hQ hq hv h0 h12 (by omega) (by omega) hm
    cases e
    rw [el] at po
    have hQ1 := q1.2.1
    have hq1 := q_b hq q1 h176
    have hn1 := q1.1
    rcases po with ⟨t1, ca, leva, ht1, hv1, nisa, pka, h7⟩ | ⟨lev, ft⟩
    · have bn := s_bn hq1 hv1
      rcases h with ⟨hs, h⟩ | ⟨hs, rfl, rfl⟩
      · rw [c_lv] at hs
        have hb : au_bn (K t1) (W t1) = (l : Int) := by omega
        obtain ⟨v4, n4, sl4, SH4, FI4, FL4, FR4, k0, v5, n5, sl5, SH5, FI5, FL5, FR5, k1, h⟩ := h
        obtain ⟨sl', SH', F', L', R', e, q3, q4, q5, q6⟩ := b_nw hQ1 k0
        cases e
        obtain ⟨-, e⟩ := k1
        cases e
        obtain ⟨hq5, hv5⟩ := s_wL (c := n1) (k := 1) (x := (0 : Int64)) (by omega) (s_wI (c := n1) (k := 0) (x := (25 : Int32)) (by omega) (s_new (by omega) q3 q5 q6 hq1 hv1))
        have fin : ∀ {m : Int32}, (l = 4 → m.toInt = 1) → (l ≠ 4 → m.toInt = 1000) → RX4_readLevel_63 (fun n sl SH FI FL FR => QX4 g 0 0 n sl SH FI FL FR) (fun a1 n sl SH FI FL FR => QX4 g 1 a1 n sl SH FI FL FR) (fun n sl SH FI FL FR => QX4 g 2 0 n sl SH FI FL FR) a1 (some n1) (some c) m (n1 + 1) sl4 SH4 (h_up FI4 n1 0 (25 : Int32)) (h_up FL4 n1 1 (0 : Int64)) (h_up FR4 n1 3 (some c)) v s → p_res K W M n l o t v s := by
          intro m m4 m5 h
          obtain ⟨gl, h⟩ := h
          cases gl with
          | zero => exact h.elim
          | succ gl =>
            have z0 : ((0 : Int32)).toInt = 0 := by decide
            rcases h with ⟨hi, h⟩ | ⟨hi, -, -⟩
            · rcases h with ⟨hs2, h⟩ | ⟨hs2, -, -⟩
              · obtain ⟨v3, n3, sl3, SH3, FI3, FL3, FR3, hc3, v7, n7, sl7, SH7, FI7, FL7, FR7, hm7, c6, e6, c7, e7, c8, e8, hK⟩ := h
                cases e6
                cases e7
                rcases s_kd hq5 hv5 with ⟨ht, kd, -, kr, -, -⟩ | ⟨-, kK, -⟩
                · obtain ⟨F3, L3, e, a3, w3⟩ := s_take hc3 hq5 hv5 ht
                  cases e
                  have q7 := q_a hq5 a3
                  obtain ⟨c', n9, sl9, SH9, F9, L9, R9, rfl, e, y1, y2, q8, q9, po⟩ := p_get (e := 1) ih q3.2.1 q7 w3 h0 h12 (by omega) (by omega) hm7
                  cases e
                  rw [el] at po
                  rw [h_up_eq] at e8 hK
                  cases e8
                  have m8 := q8.1
                  rcases po with ⟨t2, ce, leve, ht2, w8, nise, pke, h72⟩ | ⟨lev, ft⟩
                  · obtain ⟨fE, hfE⟩ : ∃ f, f = h_up FI7 c8 2 (h_up FI4 n1 0 (25 : Int32) 110 8) := ⟨_, rfl⟩
                    obtain ⟨rE, hrE⟩ : ∃ f, f = h_up FR7 c 6 (some c8) := ⟨_, rfl⟩
                    rw [← hfE, ← hrE] at hK
                    -- what the cells below the chain's node say
                    have f0 : ∀ q k, n ≤ q → q < n1 → fE q k = FI1 q k := fun q k z1 z2 => by rw [hfE, h_up_nc (by omega), q8.2.2.1 q k (by omega) (by omega), a3.1 q k (by omega), h_up_nc (by omega), q3.2.2.1 q k (by omega) (by omega)]
                    have f1 : ∀ q k, n ≤ q → q < n1 → FL7 q k = FL1 q k := fun q k z1 z2 => by rw [q8.2.2.2.1 q k (by omega) (by omega), a3.2 q k (by omega), h_up_nc (by omega), q3.2.2.2.1 q k (by omega) (by omega)]
                    have f2 : ∀ q k, n ≤ q → q < n1 → ¬ (q = c ∧ k = 6) → rE q k = FR1 q k := fun q k z1 z2 z3 => by rw [hrE, h_up_x z3, q8.2.2.2.2.1 q k (by omega), h_up_nc (by omega), q3.2.2.2.2.1 q k (by omega)]
                    have na : n_is fE FL7 rE n n1 c (p_H (l + 1) o) ca := n_is_fr nisa ⟨fun q k z1 z2 _ _ => f0 q k z1 z2, fun q k z1 z2 _ => f1 q k z1 z2, fun q k z1 z2 _ z4 => f2 q k z1 z2 z4⟩
                    have ne : n_is fE FL7 rE (n1 + 1) n7 c8 (p_H (l + 1) o) ce := n_is_fr nise ⟨fun q k z1 z2 _ z4 => by rw [hfE, h_up_x z4], fun q k z1 z2 _ => rfl, fun q k z1 z2 _ z4 => by rw [hrE, h_up_nc (by omega)]⟩
                    have hw := n_cw_1 (lo := n) (hi := n7) (x := n1) na ne (by rw [hrE, h_up_eq]) (Nat.le_refl _) (by omega) (Nat.le_refl _) h176 ⟨by omega, by omega⟩
                    have pka2 : p_kd K W t t1 fE FL7 c := p_kd_fr pka (f0 c 0 g1 g2) (f1 c 1 g1 g2)
                    have pke2 : p_kd K W (t1 + 1) t2 fE FL7 c8 := p_kd_fr pke (by rw [hfE, h_up_ne (by decide)]) rfl
                    have sg : (fE c8 2).toInt = t_ck (K t1) (W t1) := by rw [hfE, h_up_eq]; exact kd
                    have fst := fun r hp => p_fst (r := r) pka2 pke2 sg kr hb (by omega) (by omega) leva leve h72 hp
                    obtain ⟨q10, w10⟩ := s_wI (c := c8) (k := 2) (x := h_up FI4 n1 0 (25 : Int32) 110 8) (by omega) ⟨q_b q7 q8 (by omega), w8⟩
                    rw [← hfE] at q10 w10
                    have e66 : ((0 : Int32) + (1 : Int32)).toInt = 1 := by decide
                    obtain ⟨n12, sl12, SH12, F12, L12, R12, rfl, rfl, res⟩ := p_lp ih hl ha0 hc h0 h12 h176 hn1 gl c8 m _ n7 sl7 SH7 fE FL7 rE v s t2 _ hK q8.2.1 q10 w10 (by omega) hw (by rw [hfE, h_up_nc (by omega), q8.2.2.1 n1 0 (by omega) (by omega), a3.1 n1 0 (by omega), h_up_eq]; decide) (by rw [hrE, h_up_nc (by omega), q8.2.2.2.2.1 n1 3 (by omega), h_up_eq]) (by rw [hrE, h_up_nc (by omega)]; exact q9) (fun e => by rw [m4 e, e66]; decide) (fun e => ⟨m5 e, by rw [e66]; decide, by rw [e66]; omega⟩)
                    refine ⟨n1, _, _, _, _, _, _, rfl, rfl, ?_⟩
                    rcases res with ⟨t3, code3, p1, p2, p3, p4, p5, p6⟩ | ⟨p1, p2⟩
                    · exact Or.inl ⟨t3, code3, fst _ p1, by omega, p3, p4, p_kd_f (by omega) (by omega) (by omega) (by omega), fun e7 => by have := p6 (by omega); omega⟩
                    · exact Or.inr ⟨fst _ p1, p2⟩
                  · obtain ⟨rfl, rfl⟩ := p_lf ha0 (ft_c (by omega) ft) hK
                    refine ⟨n1, _, _, _, _, _, _, rfl, rfl, Or.inr ⟨?_, ft_c (by omega) ft⟩⟩
                    refine l_lv (by omega) (by omega) (fun hh => ?_) leva (l_stepn hb lev)
                    obtain ⟨b, x, k1, k2, k3, k4, -⟩ := l_cm_e hh.2
                    obtain ⟨rfl, -⟩ := hh
                    have e1 : t1 = b := congrArg Prod.fst (Option.some.inj (l_ev_u leva (k4 o)))
                    subst e1
                    have e2 := l_ev_u lev (l_al7 k3)
                    cases e2
                · exfalso
                  rw [au_bn_o (by omega) (by omega)] at hb
                  omega
              · exfalso
                rw [c_lv] at hs2
                have e110 : h_up FI4 n1 0 (25 : Int32) 110 8 = FI1 110 8 := by rw [h_up_nc (by omega), q5]
                rw [e110] at hs2
                exact hs2 hs
            · exfalso
              rw [z0] at hi
              by_cases l4 : l = 4
              · have := m4 l4; omega
              · have := m5 l4; omega
        rcases h with ⟨h3, h⟩ | ⟨h3, h⟩
        · rw [show ((3 : Int32)).toInt = 3 by decide] at h3
          exact fin (fun _ => by decide) (fun e => absurd (by omega) e) h
        · rw [show ((3 : Int32)).toInt = 3 by decide] at h3
          exact fin (fun e => absurd (by omega) h3) (fun _ => by decide) h
      · rw [c_lv] at hs
        exact ⟨c, _, _, _, _, _, _, rfl, rfl, Or.inl ⟨t1, ca, l_alone (by omega) (by omega) leva (by omega), ht1, hv1, n_is_w nisa h176 (Nat.le_refl _) (Nat.le_refl _) (by unfold p_H; omega), pka, fun e7 => by omega⟩⟩
    · rcases h with ⟨hs, h⟩ | ⟨hs, rfl, rfl⟩
      · exfalso
        rw [c_lv, ft.2] at hs
        have : n_lv 1 = -1 := by decide
        omega
      · exact ⟨c, _, _, _, _, _, _, rfl, rfl, Or.inr ⟨l_none (by omega) (by omega) lev, ft⟩⟩
  · rw [show ((7 : Int32)).toInt = 7 by decide] at hc
    have l8 : l = 8 := by omega
    subst l8
    obtain ⟨v8, n8, sl8, SH8, FI8, FL8, FR8, hm, rfl, rfl⟩ := h
    exact ih 0 0 n sl SH FI FL FR _ _ t o hQ hq hv h0 h12 (by decide) (by decide) hm
end PN
end
section
/-! THE CLASS'S PARSER over expressions: a choice; the whole. -/
section LC
variable {K W : Nat → Int} {t t1 t2 t3 : Nat} {o : Int} {c1 c2 c3 : List Int}
theorem l_0n (h : l_ev K W 1 o t (some (t1, c1))) (hk : K t1 = 5 ∧ W t1 = 63) (ho : 12 ≤ o) : l_ev K W 0 o t none := by
  obtain ⟨a, h⟩ := h
  refine ⟨a + 1, fun f hf => ?_⟩
  cases f with
  | zero => omega
  | succ f =>
    rw [lc_ps, if_pos rfl, h f (by omega)]
    dsimp only
    rw [if_pos hk, if_pos ho]
theorem l_0a (h : l_ev K W 1 o t (some (t1, c1))) (hk : K t1 = 5 ∧ W t1 = 63) (ho : o < 12) (h2 : l_ev K W 0 (o + 1) (t1 + 1) none) : l_ev K W 0 o t none := by
  obtain ⟨a, h⟩ := h
  obtain ⟨b, h2⟩ := h2
  refine ⟨a + b + 1, fun f hf => ?_⟩
  cases f with
  | zero => omega
  | succ f =>
    rw [lc_ps, if_pos rfl, h f (by omega)]
    dsimp only
    rw [if_pos hk, if_neg (by omega), h2 f (by omega)]
theorem l_0b (h : l_ev K W 1 o t (some (t1, c1))) (hk : K t1 = 5 ∧ W t1 = 63) (ho : o < 12) (h2 : l_ev K W 0 (o + 1) (t1 + 1) (some (t2, c2))) (hk2 : ¬ (K t2 = 5 ∧ W t2 = 58)) : l_ev K W 0 o t none := by
  obtain ⟨a, h⟩ := h
  obtain ⟨b, h2⟩ := h2
  refine ⟨a + b + 1, fun f hf => ?_⟩
  cases f with
  | zero => omega
  | succ f =>
    rw [lc_ps, if_pos rfl, h f (by omega)]
    dsimp only
    rw [if_pos hk, if_neg (by omega), h2 f (by omega)]
    dsimp only
    rw [if_neg hk2]
theorem l_0c (h : l_ev K W 1 o t (some (t1, c1))) (hk : K t1 = 5 ∧ W t1 = 63) (ho : o < 12) (h2 : l_ev K W 0 (o + 1) (t1 + 1) (some (t2, c2))) (hk2 : K t2 = 5 ∧ W t2 = 58) (h3 : l_ev K W 0 (o + 1) (t2 + 1) none) : l_ev K W 0 o t none := by
  obtain ⟨a, h⟩ := h
  obtain ⟨b, h2⟩ := h2
  obtain ⟨c, h3⟩ := h3
  refine ⟨a + b + c + 1, fun f hf => ?_⟩
  cases f with
  | zero => omega
  | succ f =>
    rw [lc_ps, if_pos rfl, h f (by omega)]
    dsimp only
    rw [if_pos hk, if_neg (by omega), h2 f (by omega)]
    dsimp only
    rw [if_pos hk2, h3 f (by omega)]
theorem l_0d (h : l_ev K W 1 o t (some (t1, c1))) (hk : K t1 = 5 ∧ W t1 = 63) (ho : o < 12) (h2 : l_ev K W 0 (o + 1) (t1 + 1) (some (t2, c2))) (hk2 : K t2 = 5 ∧ W t2 = 58) (h3 : l_ev K W 0 (o + 1) (t2 + 1) (some (t3, c3))) : l_ev K W 0 o t (some (t3, c1 ++ lc_ch c2 c3)) := by
  obtain ⟨a, h⟩ := h
  obtain ⟨b, h2⟩ := h2
  obtain ⟨c, h3⟩ := h3
  refine ⟨a + b + c + 1, fun f hf => ?_⟩
  cases f with
  | zero => omega
  | succ f =>
    rw [lc_ps, if_pos rfl, h f (by omega)]
    dsimp only
    rw [if_pos hk, if_neg (by omega), h2 f (by omega)]
    dsimp only
    rw [if_pos hk2, h3 f (by omega)]
end LC
section PC
variable {K W : Nat → Int} {M : Nat} {n sl : Nat} {SH : Nat → Nat × Nat} {FI : Nat → Nat → Int32} {FL : Nat → Nat → Int64} {FR : Nat → Nat → Option Nat} {v : Option Nat} {s : hS} {t : Nat} {o : Int}
theorem p_ch {g : Nat} (ih : p_P K W M g) (hQ : h_S n SH) (hq : q_tk K W M FI FL) (hv : s_vw M FI FL t o) (h0 : 0 ≤ o) (h12 : o ≤ 12) {e : Nat} {a1 : Int32} (h : QX4 (g + 1) (e + 2) a1 n sl SH FI FL FR v s) : p_res K W M n 0 o t v s := by
  have h176 := hQ.1
  have z63 : ((63 : Int32)).toInt = 63 := by decide
  obtain ⟨v0, n0, sl0, SH0, FI0, FL0, FR0, hm, h⟩ := h
  obtain ⟨c, n9, sl9, SH9, F9, L9, R9, rfl, e, g1, g2, q1, q2, po⟩ := p_get (e := 1) ih hQ hq hv h0 h12 (by decide) (by decide) hm
  cases e
  have po : p_ok K W M n 1 o t _ _ _ _ c := po
  have hQ0 := q1.2.1
  have hq0 := q_b hq q1 h176
  have hn0 := q1.1
  rcases po with ⟨t1, ca, leva, ht1, hv1, nisa, pka, -⟩ | ⟨lev, ft⟩
  · rcases h with ⟨hs, h⟩ | ⟨hs, rfl, rfl⟩
    · rw [z63] at hs
      have kd := s_kd hq0 hv1
      rcases kd with ⟨ht, kd, -, kr, -, -⟩ | ⟨-, -, kd⟩
      · have ce := ck_e kr
        have hK : K t1 = 5 ∧ W t1 = 63 := by omega
        obtain ⟨v2, n2, sl2, SH2, FI2, FL2, FR2, hc, h⟩ := h
        obtain ⟨F2', e, a2, r2⟩ := s_raise hc hq0 hv1 h0
        cases e
        rcases h with ⟨hz, rfl, rfl⟩ | ⟨hz, h⟩
        · rcases r2 with ⟨-, w, -⟩ | ⟨ho, -, ft⟩
          · exfalso; omega
          · exact ⟨c, _, _, _, _, _, _, rfl, rfl, Or.inr ⟨l_0n leva hK ho, ft⟩⟩
        · rcases r2 with ⟨ho, -, w2⟩ | ⟨-, w, -⟩
          · have hq2 := q_a hq0 a2
            obtain ⟨v4, n4, sl4, SH4, FI4, FL4, FR4, k0, v5, n5, sl5, SH5, FI5, FL5, FR5, k1, v7, n7, sl7, SH7, FI7, FL7, FR7, hc7, v8, n8, sl8, SH8, FI8, FL8, FR8, hm8, v10, n10, sl10, SH10, FI10, FL10, FR10, hc10, v11, n11, sl11, SH11, FI11, FL11, FR11, hm11, rfl, rfl⟩ := h
            obtain ⟨sl', SH', F', L', R', e, q3, q4, q5, q6⟩ := b_nw hQ0 k0
            cases e
            obtain ⟨-, e⟩ := k1
            cases e
            obtain ⟨hq5, hv5⟩ := s_wL (c := n0) (k := 1) (x := (0 : Int64)) (by omega) (s_wI (c := n0) (k := 0) (x := (63 : Int32)) (by omega) (s_new (by omega) q3 q5 q6 hq2 w2))
            obtain ⟨F7', L7', e, a7, w7⟩ := s_take hc7 hq5 hv5 ht
            cases e
            have hq7 := q_a hq5 a7
            obtain ⟨c8, n9, sl9, SH9, F9, L9, R9, rfl, e, y1, y2, q8, q9, po⟩ := p_get (e := 2) (a1 := 0) ih q3.2.1 hq7 w7 (by omega) (by omega) (by decide) (by decide) hm8
            cases e
            have po : p_ok K W M (n0 + 1) 0 (o + 1) (t1 + 1) _ _ _ _ c8 := po
            have m8 := q8.1
            rcases po with ⟨t2, cb, levb, ht2, w8, nisb, pkb, -⟩ | ⟨lev, ft⟩
            · have hq8 := q_b hq7 q8 (by omega)
              obtain ⟨F10', L10', e, a10, r10⟩ := s_expect (w := 58) hc10 (by decide) (by decide) hq8 w8
              cases e
              rcases r10 with ⟨ht3, r, w10⟩ | ⟨r, ft⟩
              · have kr2 := (hq8.2.1 t2 ht3).2.1
                have ce2 := ck_e kr2
                have hK2 : K t2 = 5 ∧ W t2 = 58 := by omega
                have hq10 := q_a hq8 a10
                obtain ⟨c11, n12, sl12, SH12, F12, L12, R12, rfl, e, x1, x2, q11, q12, po⟩ := p_get (e := 2) (a1 := 0) ih q8.2.1 hq10 w10 (by omega) (by omega) (by decide) (by decide) hm11
                cases e
                have po : p_ok K W M n8 0 (o + 1) (t2 + 1) _ _ _ _ c11 := po
                have m11 := q11.1
                rcases po with ⟨t3, cc, levc, ht3', w11, nisc, pkc, -⟩ | ⟨lev, ft⟩
                · obtain ⟨fE, hfE⟩ : ∃ f, f = h_up FI11 110 4 ((FI11 110 4) - (1 : Int32)) := ⟨_, rfl⟩
                  obtain ⟨rE, hrE⟩ : ∃ f, f = h_up FR11 n0 5 (some c11) := ⟨_, rfl⟩
                  -- the first: cells n .. n0 - 1
                  have na : n_is fE FL11 rE n n0 c (p_H 1 o) ca := n_is_fr nisa ⟨fun q k z1 z2 _ _ => by rw [hfE, h_up_nc (by omega), q11.2.2.1 q k (by omega) (by omega), a10.1 q k (by omega), q8.2.2.1 q k (by omega) (by omega), a7.1 q k (by omega), h_up_nc (by omega), q3.2.2.1 q k (by omega) (by omega)]; exact a2.1 q k (by omega), fun q k z1 z2 _ => by rw [q11.2.2.2.1 q k (by omega) (by omega), a10.2 q k (by omega), q8.2.2.2.1 q k (by omega) (by omega), a7.2 q k (by omega), h_up_nc (by omega)]; exact q3.2.2.2.1 q k (by omega) (by omega), fun q k z1 z2 _ _ => by rw [hrE, h_up_nc (by omega), q11.2.2.2.2.1 q k (by omega), h_up_nc (by omega), q8.2.2.2.2.1 q k (by omega), h_up_nc (by omega)]; exact q3.2.2.2.2.1 q k (by omega)⟩
                  have nb : n_is fE FL11 rE (n0 + 1) n8 c8 (p_H 0 (o + 1)) cb := n_is_fr nisb ⟨fun q k z1 z2 _ _ => by rw [hfE, h_up_nc (by omega), q11.2.2.1 q k (by omega) (by omega)]; exact a10.1 q k (by omega), fun q k z1 z2 _ => by rw [q11.2.2.2.1 q k (by omega) (by omega)]; exact a10.2 q k (by omega), fun q k z1 z2 _ _ => by rw [hrE, h_up_nc (by omega), q11.2.2.2.2.1 q k (by omega), h_up_nc (by omega)]⟩
                  have nc : n_is fE FL11 rE n8 n11 c11 (p_H 0 (o + 1)) cc := n_is_fr nisc ⟨fun q k z1 z2 _ _ => by rw [hfE, h_up_nc (by omega)], fun q k z1 z2 _ => rfl, fun q k z1 z2 _ _ => by rw [hrE, h_up_nc (by omega)]⟩
                  have ek : (fE n0 0).toInt = 63 := by rw [hfE, h_up_nc (by omega), q11.2.2.1 n0 0 (by omega) (by omega), a10.1 n0 0 (by omega), q8.2.2.1 n0 0 (by omega) (by omega), a7.1 n0 0 (by omega), h_up_eq]; exact z63
                  have e3 : rE n0 3 = some c := by rw [hrE, h_up_ne (by decide), q11.2.2.2.2.1 n0 3 (by omega), h_up_ne (by decide), q8.2.2.2.2.1 n0 3 (by omega), h_up_eq]
                  have e4 : rE n0 4 = some c8 := by rw [hrE, h_up_ne (by decide), q11.2.2.2.2.1 n0 4 (by omega), h_up_eq]
                  have e5 : rE n0 5 = some c11 := by rw [hrE, h_up_eq]
                  have hH : p_H 0 (o + 1) ≤ p_H 1 o := by unfold p_H; omega
                  have nis := n_is_ch (lo := n) (hi := n11) (c := n0) h176 hn0 (by omega) ek e3 e4 e5 na (n_is_w nb (by omega) (Nat.le_refl _) (Nat.le_refl _) hH) (n_is_w nc (by omega) (Nat.le_refl _) (Nat.le_refl _) hH) ⟨Nat.le_refl _, by omega, by omega⟩ ⟨by omega, by omega, by omega⟩ ⟨by omega, by omega, by omega⟩
                  have wE := s_low w11 h0 h12
                  rw [← hfE] at wE
                  rw [← hfE, ← hrE]
                  exact ⟨n0, _, _, _, _, _, _, rfl, rfl, Or.inl ⟨t3, _, l_0d leva hK ho levb hK2 levc, by omega, wE, n_is_w nis h176 (Nat.le_refl _) (Nat.le_refl _) (by unfold p_H; omega), p_kd_f (by omega) (by omega) (by omega) (by omega), fun h => by omega⟩⟩
                · exact ⟨n0, _, _, _, _, _, _, rfl, rfl, Or.inr ⟨l_0c leva hK ho levb hK2 lev, ft_4 ft⟩⟩
              · have n58 : ¬ (K t2 = 5 ∧ W t2 = 58) := by
                  intro h58
                  rcases s_kd hq8 w8 with ⟨k1, -, -, kr2, -⟩ | ⟨-, k1, -⟩
                  · have ce2 := ck_e kr2
                    have := r k1
                    omega
                  · omega
                obtain ⟨c11, n12, sl12, SH12, F12, L12, R12, rfl, e, -, ft2⟩ := b_F g 2 0 _ _ _ _ _ _ _ _ (by decide) (by decide) q8.2.1 ft hm11
                cases e
                exact ⟨n0, _, _, _, _, _, _, rfl, rfl, Or.inr ⟨l_0b leva hK ho levb n58, ft_4 ft2⟩⟩
            · have e := s_expect_f hc10 ft.1
              cases e
              obtain ⟨c11, n12, sl12, SH12, F12, L12, R12, rfl, e, -, ft2⟩ := b_F g 2 0 _ _ _ _ _ _ _ _ (by decide) (by decide) q8.2.1 ft hm11
              cases e
              exact ⟨n0, _, _, _, _, _, _, rfl, rfl, Or.inr ⟨l_0a leva hK ho lev, ft_4 ft2⟩⟩
          · exfalso; omega
      · exfalso; omega
    · rw [z63] at hs
      refine ⟨c, _, _, _, _, _, _, rfl, rfl, Or.inl ⟨t1, ca, l_0 leva (fun t' c' e => ?_), ht1, hv1, n_is_w nisa h176 (Nat.le_refl _) (Nat.le_refl _) (by unfold p_H; omega), pka, fun h => by omega⟩⟩
      have e1 : t1 = t' := congrArg Prod.fst (Option.some.inj e)
      subst e1
      intro hK
      rcases s_kd hq0 hv1 with ⟨-, kd, -, kr, -⟩ | ⟨-, kK, -⟩
      · have ce := ck_e kr
        omega
      · omega
  · rcases h with ⟨hs, h⟩ | ⟨hs, rfl, rfl⟩
    · exfalso
      rw [ft.2, z63] at hs
      omega
    · exact ⟨c, _, _, _, _, _, _, rfl, rfl, Or.inr ⟨l_0 lev (fun _ _ e => by cases e), ft⟩⟩
/-- THE PARSER over expressions -/
theorem p_main : ∀ g, p_P K W M g := by
  intro g
  induction g with
  | zero => intro e a1 n sl SH FI FL FR v s t o _ _ _ _ _ _ _ h; exact h.elim
  | succ g ih =>
    intro e a1 n sl SH FI FL FR v s t o hQ hq hv h0 h12 ha0 ha7 h
    match e, h with
    | 0, h => exact p_un ih hQ hq hv h0 h12 h
    | 1, h => exact p_le ih hQ hq hv h0 h12 ha0 ha7 h
    | e + 2, h => exact p_ch ih hQ hq hv h0 h12 h
/-- readChoice -/
theorem s_choice (hQ : h_S n SH) (hq : q_tk K W M FI FL) (hv : s_vw M FI FL t o) (h0 : 0 ≤ o) (h12 : o ≤ 12) (h : RX4_readChoice_ n sl SH FI FL FR v s) : ∃ c n2 sl2 SH2 F2 L2 R2, v = some c ∧ s = (n2, sl2, SH2, F2, L2, R2) ∧ n ≤ c ∧ c < n2 ∧ b_ct n SH FI FL FR n2 SH2 F2 L2 R2 ∧ R2 c 6 = none ∧ p_ok K W M n 0 o t n2 F2 L2 R2 c := by
  obtain ⟨g, h⟩ := h
  exact p_get (e := 2) (a1 := 0) (p_main g) hQ hq hv h0 h12 (by decide) (by decide) h
theorem s_choice_f (hQ : h_S n SH) (hf : s_ft FI) (h : RX4_readChoice_ n sl SH FI FL FR v s) : ∃ c n2 sl2 SH2 F2 L2 R2, v = some c ∧ s = (n2, sl2, SH2, F2, L2, R2) ∧ b_ct n SH FI FL FR n2 SH2 F2 L2 R2 ∧ s_ft F2 := by
  obtain ⟨g, h⟩ := h
  obtain ⟨c, n2, sl2, SH2, F2, L2, R2, rfl, rfl, g1, g2, q1, q2⟩ := b_G g 2 0 n sl SH FI FL FR v s hQ h
  obtain ⟨c', n', sl', SH', F', L', R', e1, e2, -, ft⟩ := b_F g 2 0 n sl SH FI FL FR _ _ (by decide) (by decide) hQ hf h
  cases e2
  exact ⟨c, n2, sl2, SH2, F2, L2, R2, rfl, rfl, q1, ft⟩
end PC
end
section
/-! THE CLASS'S PARSER: places. -/
theorem l_gl {a b : List Int} {i : Nat} (h : i < a.length) : (a ++ b).getD i 0 = a.getD i 0 := by rw [List.getD_eq_getElem?_getD, List.getD_eq_getElem?_getD, List.getElem?_append_left h]
theorem l_gr {a b : List Int} {i : Nat} (h : a.length ≤ i) : (a ++ b).getD i 0 = b.getD (i - a.length) 0 := by rw [List.getD_eq_getElem?_getD, List.getD_eq_getElem?_getD, List.getElem?_append_right h]
section YC
variable {n sl : Nat} {SH : Nat → Nat × Nat} {FI : Nat → Nat → Int32} {FL : Nat → Nat → Int64} {FR : Nat → Nat → Option Nat} {s : hS}
theorem y_copy {c z : Nat} {m : Int32} {v : Option Nat} (h : RJ7_copyOf_59c91 (some c) m n sl SH FI FL FR v s) (hm : m.toInt = z) (hz : z ≤ (SH c).2) (hb : (SH c).2 ≤ 100000) (hc : c < n) : ∃ sl2 SH2 F2 L2 R2, v = some n ∧ s = (n + 1, sl2, SH2, F2, L2, R2) ∧ (SH2 n).2 = z ∧ (∀ i, i < z → F2 n i = FI c i) ∧ (∀ q, q ≠ n → SH2 q = SH q) ∧ (∀ q, q ≠ n → F2 q = FI q) ∧ (∀ q, q ≠ n → L2 q = FL q) ∧ (∀ q, q ≠ n → R2 q = FR q) := by
  have ez : (Int32.ofNat (SH c).2).toInt = ((SH c).2 : Int) := i_lit (by omega)
  obtain ⟨c1, e1, h⟩ := h
  cases e1
  rcases h with ⟨hc1, h⟩ | ⟨hc1, h⟩
  · rw [ez, hm] at hc1
    obtain ⟨c4, e4, v2, n2, sl2, SH2, FI2, FL2, FR2, hk, rfl, rfl⟩ := h
    cases e4
    obtain ⟨-, e⟩ := hk
    cases e
    refine ⟨_, _, _, _, _, rfl, rfl, ?_, fun i _ => ?_, fun q hq => va_o hq, fun q hq => va_o hq, fun q hq => va_o hq, fun q hq => va_o hq⟩
    · rw [va_s]; omega
    · rw [va_s]
  · rw [ez, hm] at hc1
    obtain ⟨v4, n4, sl4, SH4, FI4, FL4, FR4, hk, c6, e6, c9, e9, c10, e10, v7, n7, sl7, SH7, FI7, FL7, FR7, hp, rfl, rfl⟩ := h
    cases e6
    cases e9
    cases e10
    have hk : (n4, sl4, SH4, FI4, FL4, FR4) = (n + 1, sl + m.toInt.toNat, va_up SH n (100 + 0, m.toInt.toNat), va_up FI n (fun _ => 0), va_up FL n (fun _ => 0), va_up FR n (fun _ => none)) := hk
    cases hk
    obtain ⟨-, -, -, -, -, e⟩ := hp
    cases e
    have es : va_up SH n (100 + 0, m.toInt.toNat) c = SH c := va_o (by omega)
    have em : (fJ9_min_7cf53 (Int32.ofNat (va_up SH n (100 + 0, m.toInt.toNat) c).2) m (va_up SH n (100 + 0, m.toInt.toNat)) (va_up FI n (fun _ => 0)) (va_up FL n (fun _ => 0)) (va_up FR n (fun _ => none))).toInt = z := by
      unfold fJ9_min_7cf53
      rw [es]
      by_cases hlt : m.toInt < (Int32.ofNat (SH c).2).toInt
      · rw [if_pos hlt]; exact hm
      · exfalso
        rw [ez, hm] at hlt
        omega
    refine ⟨_, _, _, _, _, rfl, rfl, ?_, fun i hi => ?_, fun q hq => va_o hq, fun q hq => ?_, fun q hq => va_o hq, fun q hq => va_o hq⟩
    · rw [va_s]
      show m.toInt.toNat = z
      omega
    · rw [va_s]
      unfold va_cpy
      have z0 : ((0 : Int32)).toInt.toNat = 0 := by decide
      rw [em, z0, if_pos (by omega), va_o (by omega)]
      congr 1
      omega
    · rw [va_o hq, va_o hq]
theorem y_ct {SH2 : Nat → Nat × Nat} {F2 : Nat → Nat → Int32} {L2 : Nat → Nat → Int64} {R2 : Nat → Nat → Option Nat} (hQ : h_S n SH) (h1 : ∀ q, q ≠ n → SH2 q = SH q) (h2 : ∀ q, q ≠ n → F2 q = FI q) (h3 : ∀ q, q ≠ n → L2 q = FL q) (h4 : ∀ q, q ≠ n → R2 q = FR q) : b_ct n SH FI FL FR (n + 1) SH2 F2 L2 R2 := by
  have h176 := hQ.1
  exact ⟨by omega, ⟨by omega, fun q hq => (h1 q (by omega)).trans (hQ.2 q hq)⟩, fun c k g _ => by rw [h2 c (by omega)], fun c k g _ => by rw [h3 c (by omega)], fun c k g => by rw [h4 c (by omega)], fun h => by rw [h2 110 (by omega)]; exact h, fun c g => h1 c (by omega)⟩
theorem b_nwz {tg : Nat} {v : Unit} {n0 sl0 : Nat} {SH0 : Nat → Nat × Nat} {FI0 : Nat → Nat → Int32} {FL0 : Nat → Nat → Int64} {FR0 : Nat → Nat → Option Nat} (h : P_nw tg n sl SH FI FL FR v (n0, sl0, SH0, FI0, FL0, FR0)) : ∀ k, FI0 n k = 0 := by
  have h : (n0, sl0, SH0, FI0, FL0, FR0) = (n + 1, sl + h_nf tg, va_up SH n (tg, 0), va_up FI n (fun _ => 0), va_up FL n (fun _ => 0), va_up FR n (fun _ => none)) := h
  cases h
  intro k
  rw [va_s]
end YC
section SB
variable {K W : Nat → Int} {M : Nat} {n sl : Nat} {SH : Nat → Nat × Nat} {FR : Nat → Nat → Option Nat} {o : Int}
theorem s_w117 {FI : Nat → Nat → Int32} {FL : Nat → Nat → Int64} {t k : Nat} {x : Int32} (h : q_tk K W M FI FL ∧ s_vw M FI FL t o) : q_tk K W M (h_up FI 117 k x) FL ∧ s_vw M (h_up FI 117 k x) FL t o := by
  have e0 : h_up FI 117 k x 110 = FI 110 := h_up_nc (by omega)
  have e1 : h_up FI 117 k x 111 = FI 111 := h_up_nc (by omega)
  have e2 : h_up FI 117 k x 112 = FI 112 := h_up_nc (by omega)
  refine ⟨q_fr h.1 ⟨e2, by rw [e1], rfl⟩, ?_⟩
  have h2 := h.2
  unfold s_vw at h2 ⊢
  rw [e0, e2]
  exact h2
/-- the block's cell, at the end -/
theorem s_82 {FI : Nat → Nat → Int32} {FL : Nat → Nat → Int64} {l1 : Int32} {m : Nat} {v : Option Nat} {s : hS} (hQ : h_S n SH) (hl : l1.toInt = m) (hm : m ≤ 64) (h : RX4_readBlock_82 l1 n sl SH FI FL FR v s) : ∃ sl2 SH2 F2 L2 R2 F1, v = some n ∧ s = (n + 1, sl2, SH2, F2, L2, R2) ∧ b_ct n SH FI FL FR (n + 1) SH2 F2 L2 R2 ∧ (SH2 n).2 = m ∧ (∀ i, i < m → F2 n i = FI 117 i) ∧ F2 110 = F1 110 ∧ F2 112 = FI 112 ∧ L2 110 = FL 110 ∧ L2 113 = FL 113 ∧ ((m ≠ 0 ∧ F1 = FI) ∨ (m = 0 ∧ ∃ u s', RX4_refuse (1 : Int32) n sl SH FI FL FR u s' ∧ s' = (n, sl, SH, F1, FL, FR))) := by
  have h176 := hQ.1
  have es := s117 hQ
  rcases h with ⟨h0, h⟩ | ⟨h0, h⟩
  · obtain ⟨v1, n1, sl1, SH1, FI1, FL1, FR1, hr, v2, n2, sl2, SH2, FI2, FL2, FR2, hk, rfl, rfl⟩ := h
    have hr0 := hr
    obtain ⟨F1, e, br⟩ := b_refuse hQ hr
    cases e
    obtain ⟨sl3, SH3, F3, L3, R3, rfl, e, k1, k2, k3, k4, k5, k6⟩ := y_copy hk hl (by rw [es]; exact hm) (by rw [es]; decide) (by omega)
    cases e
    have b2 := y_ct hQ k3 k4 k5 k6
    have e112 : FI1 112 = FI 112 := by funext k; exact br.2.2.1 112 k (by omega) (by omega)
    exact ⟨_, _, _, _, _, FI1, rfl, rfl, b_tr br b2, k1, fun i hi => by omega, k4 110 (by omega), (k4 112 (by omega)).trans e112, k5 110 (by omega), k5 113 (by omega), Or.inr ⟨by omega, _, _, hr0, rfl⟩⟩
  · obtain ⟨v2, n2, sl2, SH2, FI2, FL2, FR2, hk, rfl, rfl⟩ := h
    obtain ⟨sl3, SH3, F3, L3, R3, rfl, e, k1, k2, k3, k4, k5, k6⟩ := y_copy hk hl (by rw [es]; exact hm) (by rw [es]; decide) (by omega)
    cases e
    exact ⟨_, _, _, _, _, FI, rfl, rfl, y_ct hQ k3 k4 k5 k6, k1, k2, k4 110 (by omega), k4 112 (by omega), k5 110 (by omega), k5 113 (by omega), Or.inl ⟨by omega, rfl⟩⟩
/-- behind a fault -/
theorem s_bl_f {FI : Nat → Nat → Int32} {FL : Nat → Nat → Int64} {g m : Nat} {l1 l2 : Int32} {v : Option Nat} {s : hS} (hQ : h_S n SH) (hf : s_ft FI) (hl : l1.toInt = m) (hm : m ≤ 64) (h : GX4_readBlock_4 g l1 l2 n sl SH FI FL FR v s) : ∃ sl2 SH2 F2 L2 R2, v = some n ∧ s = (n + 1, sl2, SH2, F2, L2, R2) ∧ b_ct n SH FI FL FR (n + 1) SH2 F2 L2 R2 ∧ s_ft F2 := by
  have hX : RX4_readBlock_82 l1 n sl SH FI FL FR v s := by
    cases g with
    | zero => exact h.elim
    | succ g =>
      rcases h with ⟨-, h⟩ | ⟨-, h⟩
      · exact h
      · rcases h with ⟨h5, -⟩ | ⟨-, h⟩
        · exfalso
          rw [hf.2] at h5
          revert h5
          decide
        · exact h
  obtain ⟨sl2, SH2, F2, L2, R2, F1, rfl, rfl, b, -, -, e, -, -, -, w⟩ := s_82 hQ hl hm hX
  refine ⟨_, _, _, _, _, rfl, rfl, b, ?_⟩
  unfold s_ft
  rw [e]
  rcases w with ⟨-, e1⟩ | ⟨-, u, s', hr, e1⟩
  · rw [e1]; exact hf
  · have e2 := s_refuse_f hr hf.1
    rw [e2] at e1
    cases e1
    exact hf
theorem s_bl : ∀ (g : Nat) (l1 l2 : Int32) (FI : Nat → Nat → Int32) (FL : Nat → Nat → Int64) (v : Option Nat) (s : hS) (t m : Nat) (bs : List Int), GX4_readBlock_4 g l1 l2 n sl SH FI FL FR v s → h_S n SH → q_tk K W M FI FL → s_vw M FI FL t o → l1.toInt = m → l2.toInt = m → bs.length = m → m ≤ 64 → (∀ i, i < m → (FI 117 i).toInt = bs.getD i 0 ∧ 0 ≤ bs.getD i 0 ∧ bs.getD i 0 ≤ 255) → ∃ sl2 SH2 F2 L2 R2, v = some n ∧ s = (n + 1, sl2, SH2, F2, L2, R2) ∧ b_ct n SH FI FL FR (n + 1) SH2 F2 L2 R2 ∧ ((∃ t2 c, (∀ f, 66 ≤ f + m → lp_bl K W f m t = some (t2, c)) ∧ 0 < m + c.length ∧ t ≤ t2 ∧ s_vw M F2 L2 t2 o ∧ (SH2 n).2 = m + c.length ∧ m + c.length ≤ 64 ∧ ∀ i, i < m + c.length → (F2 n i).toInt = (bs ++ c).getD i 0 ∧ 0 ≤ (bs ++ c).getD i 0 ∧ (bs ++ c).getD i 0 ≤ 255) ∨ (s_ft F2 ∧ ((∀ f, 66 ≤ f + m → lp_bl K W f m t = none) ∨ (m = 0 ∧ K t ≠ 3)))) := by
  intro g
  induction g with
  | zero => intro l1 l2 FI FL v s t m bs h; exact h.elim
  | succ g ih =>
    intro l1 l2 FI FL v s t m bs h hQ hq hv hl1 hl2 hbs hm hB
    have h176 := hQ.1
    have es := s117 hQ
    have e64 : (Int32.ofNat (SH 117).2).toInt = 64 := by rw [es]; decide
    have z5 : ((5 : Int32)).toInt = 5 := by decide
    have z255 : ((255 : Int64)).toInt = 255 := by decide
    have kd := s_kd hq hv
    rcases h with ⟨h1, h⟩ | ⟨h1, h⟩
    · exfalso
      rw [e64] at h1
      omega
    · rcases h with ⟨h5, h⟩ | ⟨h5, h⟩
      · rw [z5] at h5
        rcases kd with ⟨ht, kd, -, kr, k3, -⟩ | ⟨-, -, kd⟩
        · have ce := ck_e kr
          have hK : K t = 3 := by omega
          obtain ⟨w1, w2, w3⟩ := k3 hK
          rcases h with ⟨h6, h⟩ | ⟨h6, h⟩
          · rw [z255, w1] at h6
            obtain ⟨v3, n3, sl3, SH3, FI3, FL3, FR3, hr, hK2⟩ := h
            obtain ⟨-, -, br⟩ := b_refuse hQ hr
            obtain ⟨F3, e, a3, ft⟩ := s_refuse hr (by decide) hq hv
            cases e
            obtain ⟨sl2, SH2, F2, L2, R2, rfl, rfl, b2, ft2⟩ := s_bl_f hQ ft hl1 hm hK2
            refine ⟨_, _, _, _, _, rfl, rfl, b_tr (b_a hQ a3 (fun h => absurd hv.1 h)) b2, Or.inr ⟨ft2, Or.inl fun f hf => ?_⟩⟩
            cases f with
            | zero => omega
            | succ f => rw [lp_bl, if_pos hK, if_pos h6]
          · rw [z255, w1] at h6
            rcases h with ⟨h7, h⟩ | ⟨h7, h⟩
            · rw [e64] at h7
              obtain ⟨-, v5, n5, sl5, SH5, FI5, FL5, FR5, hk, hK2⟩ := h
              have em : l1.toInt.toNat = m := by omega
              rw [em] at hk
              obtain ⟨q1, w117⟩ := s_w117 (k := m) (x := (FL 110 9).toInt32) ⟨hq, hv⟩
              obtain ⟨F5, L5, e, a5, w5⟩ := s_take hk q1 w117 ht
              cases e
              have q5 := q_a q1 a5
              have ex : ((FL 110 9).toInt32).toInt = W t := l_2i w1 (by omega) (by omega)
              have e117 : ∀ i, FI5 117 i = h_up FI 117 m (FL 110 9).toInt32 117 i := fun i => a5.1 117 i (by omega)
              obtain ⟨sl2, SH2, F2, L2, R2, rfl, rfl, b2, res⟩ := ih _ _ FI5 FL5 v s (t + 1) (m + 1) (bs ++ [W t]) hK2 hQ q5 w5 (by rw [i_add hl1 (by decide : ((1 : Int32)).toInt = 1) (by omega) (by omega)]; omega) (by rw [i_add hl2 (by decide : ((1 : Int32)).toInt = 1) (by omega) (by omega)]; omega) (by rw [List.length_append, hbs]; rfl) (by omega) (fun i hi => by
                rw [e117]
                by_cases e : i = m
                · subst e
                  rw [h_up_eq, ex, l_gr (by omega), hbs, Nat.sub_self]
                  exact ⟨rfl, w2, by show W t ≤ 255; omega⟩
                · rw [h_up_ne e, l_gl (by omega)]
                  exact hB i (by omega))
              have b1 : b_ct n SH FI FL FR n SH FI5 FL5 FR := ⟨Nat.le_refl _, hQ, fun c k _ g2 => by rw [a5.1 c k (by omega), h_up_nc (by omega)], fun c k _ g2 => a5.2 c k g2, fun _ _ _ => rfl, fun h => absurd hv.1 h, fun _ _ => rfl⟩
              refine ⟨_, _, _, _, _, rfl, rfl, b_tr b1 b2, ?_⟩
              rcases res with ⟨t2, c, r1, r2, r3, r4, r5, r6, r7⟩ | ⟨ft, r | ⟨r, -⟩⟩
              · refine Or.inl ⟨t2, W t :: c, fun f hf => ?_, by rw [List.length_cons]; omega, by omega, r4, by rw [r5, List.length_cons]; omega, by rw [List.length_cons]; omega, ?_⟩
                · cases f with
                  | zero => omega
                  | succ f => rw [lp_bl, if_pos hK, if_neg h6, if_neg (by omega), r1 f (by omega)]
                · rw [List.append_assoc] at r7
                  rw [List.length_cons]
                  intro i hi
                  exact r7 i (by omega)
              · refine Or.inr ⟨ft, Or.inl fun f hf => ?_⟩
                cases f with
                | zero => omega
                | succ f => rw [lp_bl, if_pos hK, if_neg h6, if_neg (by omega), r f (by omega)]
              · omega
            · rw [e64] at h7
              obtain ⟨v3, n3, sl3, SH3, FI3, FL3, FR3, hr, hK2⟩ := h
              obtain ⟨F3, e, a3, ft⟩ := s_refuse hr (by decide) hq hv
              cases e
              obtain ⟨sl2, SH2, F2, L2, R2, rfl, rfl, b2, ft2⟩ := s_bl_f hQ ft hl1 hm hK2
              refine ⟨_, _, _, _, _, rfl, rfl, b_tr (b_a hQ a3 (fun h => absurd hv.1 h)) b2, Or.inr ⟨ft2, Or.inl fun f hf => ?_⟩⟩
              cases f with
              | zero => omega
              | succ f => rw [lp_bl, if_pos hK, if_neg h6, if_pos (by omega)]
        · exfalso; omega
      · rw [z5] at h5
        have hK : K t ≠ 3 := by
          rcases kd with ⟨-, kd, -, kr, -⟩ | ⟨-, kK, -⟩
          · have ce := ck_e kr
            omega
          · omega
        obtain ⟨sl2, SH2, F2, L2, R2, F1, rfl, rfl, b, j1, j2, j3, j4, j5, j6, w⟩ := s_82 hQ hl1 hm h
        refine ⟨_, _, _, _, _, rfl, rfl, b, ?_⟩
        rcases w with ⟨m0, rfl⟩ | ⟨m0, u, s', hr, e1⟩
        · refine Or.inl ⟨t, [], fun f hf => ?_, by rw [List.length_nil]; omega, Nat.le_refl _, ?_, j1, by rw [List.length_nil]; omega, fun i hi => ?_⟩
          · cases f with
            | zero => omega
            | succ f => rw [lp_bl, if_neg hK]
          · unfold s_vw
            rw [j3, j4, j5, j6]
            exact hv
          · rw [List.length_nil] at hi
            rw [List.append_nil, j2 i (by omega)]
            exact hB i (by omega)
        · obtain ⟨F3, e2, a3, ft⟩ := s_refuse hr (by decide) hq hv
          rw [e2] at e1
          cases e1
          refine Or.inr ⟨?_, Or.inr ⟨m0, hK⟩⟩
          unfold s_ft
          rw [j3]
          exact ft
end SB
end
section
/-! THE CLASS'S PARSER: what a place says. -/
/-- a place's bytes -/
def w_pl (F : Nat → Nat → Int32) (L : Nat → Nat → Int64) (R : Nat → Nat → Option Nat) (SH : Nat → Nat × Nat) (c : Nat) (code : List Int) : Prop := 176 ≤ c ∧ (((F c 0).toInt = 1 ∧ ∃ f, n_cd F L R f 0 (R c 2) 0 = some code) ∨ ((F c 0).toInt = 2 ∧ 0 ≤ (L c 1).toInt ∧ (L c 1).toInt ≤ 31 ∧ code = [80 + (L c 1).toInt]) ∨ ((F c 0).toInt = 3 ∧ ∃ f a, n_cd F L R f 0 (R c 2) 0 = some a ∧ code = a ++ [159]) ∨ ((F c 0).toInt = 4 ∧ ∃ b bs, R c 3 = some b ∧ 176 ≤ b ∧ (SH b).2 = bs.length ∧ bs.length ≤ 64 ∧ (∀ i, i < bs.length → (F b i).toInt = bs.getD i 0 ∧ 0 ≤ bs.getD i 0 ∧ bs.getD i 0 ≤ 255) ∧ code = 158 :: (bs.length : Int) :: bs) ∨ ((F c 0).toInt = 0 ∧ code = []))
/-- heaps that agree on its cells, but for its width and what is behind it -/
def m_ag (lo hi c : Nat) (FI : Nat → Nat → Int32) (FL : Nat → Nat → Int64) (FR : Nat → Nat → Option Nat) (SH : Nat → Nat × Nat) (F2 : Nat → Nat → Int32) (L2 : Nat → Nat → Int64) (R2 : Nat → Nat → Option Nat) (S2 : Nat → Nat × Nat) : Prop := (∀ q k, lo ≤ q → q < hi → ¬ (q = c ∧ k = 4) → F2 q k = FI q k) ∧ (∀ q k, lo ≤ q → q < hi → L2 q k = FL q k) ∧ (∀ q k, lo ≤ q → q < hi → ¬ (q = c ∧ k = 5) → R2 q k = FR q k) ∧ (∀ q, lo ≤ q → q < hi → S2 q = SH q)
def m_pl (FI : Nat → Nat → Int32) (FL : Nat → Nat → Int64) (FR : Nat → Nat → Option Nat) (SH : Nat → Nat × Nat) (lo hi c : Nat) (code : List Int) : Prop := 176 ≤ lo ∧ lo ≤ c ∧ c < hi ∧ ∀ F2 L2 R2 S2, m_ag lo hi c FI FL FR SH F2 L2 R2 S2 → w_pl F2 L2 R2 S2 c code
theorem m_pl_fr {FI F2 : Nat → Nat → Int32} {FL L2 : Nat → Nat → Int64} {FR R2 : Nat → Nat → Option Nat} {SH S2 : Nat → Nat × Nat} {lo hi c : Nat} {code : List Int} (h : m_pl FI FL FR SH lo hi c code) (ha : m_ag lo hi c FI FL FR SH F2 L2 R2 S2) : m_pl F2 L2 R2 S2 lo hi c code :=
  ⟨h.1, h.2.1, h.2.2.1, fun F3 L3 R3 S3 h3 => h.2.2.2 F3 L3 R3 S3 ⟨fun q k a b e => (h3.1 q k a b e).trans (ha.1 q k a b e), fun q k a b => (h3.2.1 q k a b).trans (ha.2.1 q k a b), fun q k a b e => (h3.2.2.1 q k a b e).trans (ha.2.2.1 q k a b e), fun q a b => (h3.2.2.2 q a b).trans (ha.2.2.2 q a b)⟩⟩
/-- lp_pl with fuel enough, where a place may stand -/
def l_pl (K W : Nat → Int) (o : Int) (t : Nat) (r : Option (Nat × List Int)) : Prop := ∃ F0, ∀ f, F0 ≤ f → (if lp_is (K t) (W t) = true then lp_pl K W f o t else none) = r
section PQ
variable {K W : Nat → Int} {M : Nat} {n sl : Nat} {SH : Nat → Nat × Nat} {FI : Nat → Nat → Int32} {FL : Nat → Nat → Int64} {FR : Nat → Nat → Option Nat} {v : Option Nat} {s : hS} {t : Nat} {o : Int}
/-- the number of a register -/
theorem s_reg {c : Nat} {w : Int64} {u : Unit} {n1 sl1 : Nat} {SH1 : Nat → Nat × Nat} {FI1 : Nat → Nat → Int32} {FL1 : Nat → Nat → Int64} {FR1 : Nat → Nat → Option Nat} (hc : 176 ≤ c) (h : RX4_refuseHighRegister n sl SH FI FL FR w (n1, sl1, SH1, FI1, FL1, FR1)) (h2 : RX4_expect (5 : Int32) n1 sl1 SH1 FI1 (h_up FL1 c 1 w) FR1 u s) (hq : q_tk K W M FI FL) (hv : s_vw M FI FL t o) : ∃ F2 L2, s = (n, sl, SH, F2, L2, FR) ∧ a_fr FI F2 (h_up FL c 1 w) L2 ∧ ((K t = 3 ∧ W t ≤ 31 ∧ 0 ≤ W t ∧ (L2 c 1).toInt = W t ∧ s_vw M F2 L2 (t + 1) o) ∨ (¬ (K t = 3 ∧ W t ≤ 31) ∧ s_ft F2)) := by
  have z5 : ((5 : Int32)).toInt = 5 := by decide
  have z32 : ((32 : Int64)).toInt = 32 := by decide
  have kd := s_kd hq hv
  rcases h with ⟨h5, h⟩ | ⟨h5, rfl, e⟩
  · rw [z5] at h5
    rcases kd with ⟨ht, kd, -, kr, k3, -⟩ | ⟨-, -, kd⟩
    · have ce := ck_e kr
      have hK : K t = 3 := by omega
      obtain ⟨j1, j2, j3⟩ := k3 hK
      rcases h with ⟨h32, rfl, e⟩ | ⟨h32, h⟩
      · rw [z32] at h32
        cases e
        obtain ⟨q1, w1⟩ := s_wL (c := c) (k := 1) (x := FL 110 9) hc ⟨hq, hv⟩
        obtain ⟨F2, L2, e, a2, r⟩ := s_expect (w := 5) h2 (by decide) (by decide) q1 w1
        rcases r with ⟨-, -, w2⟩ | ⟨r, -⟩
        · exact ⟨F2, L2, e, a2, Or.inl ⟨hK, by omega, j2, by rw [a2.2 c 1 (by omega), h_up_eq]; exact j1, w2⟩⟩
        · exfalso
          have := r ht
          omega
      · rw [z32] at h32
        obtain ⟨v2, n2, sl2, SH2, FI2, FL2, FR2, hr, rfl, e⟩ := h
        obtain ⟨F3, e', a3, ft⟩ := s_refuse hr (by decide) hq hv
        cases e'
        cases e
        have e := s_expect_f h2 ft.1
        exact ⟨_, _, e, ⟨a3.1, fun _ _ _ => rfl⟩, Or.inr ⟨by omega, ft⟩⟩
    · exfalso; omega
  · rw [z5] at h5
    cases e
    obtain ⟨q1, w1⟩ := s_wL (c := c) (k := 1) (x := FL 110 9) hc ⟨hq, hv⟩
    obtain ⟨F2, L2, e, a2, r⟩ := s_expect (w := 5) h2 (by decide) (by decide) q1 w1
    have n3 : K t ≠ 3 := by
      rcases kd with ⟨-, kd, -, kr, -, -⟩ | ⟨-, kK, -⟩
      · intro h3
        have ce := ck_e kr
        omega
      · omega
    rcases r with ⟨ht, r, -⟩ | ⟨-, ft⟩
    · exfalso
      rcases kd with ⟨-, kd, -⟩ | ⟨e, -⟩
      · omega
      · omega
    · exact ⟨F2, L2, e, a2, Or.inr ⟨fun h => n3 h.1, ft⟩⟩
theorem s_begins : (fX4_beginsPlace (FI 110 8) SH FI FL FR).toInt = 0 ↔ ¬ ((FI 110 8).toInt = 7 ∨ (FI 110 8).toInt = 91 ∨ (FI 110 8).toInt = 8 ∨ (FI 110 8).toInt = 9 ∨ (FI 110 8).toInt = 10) := by
  unfold fX4_beginsPlace
  rw [show ((7 : Int32)).toInt = 7 by decide, show ((91 : Int32)).toInt = 91 by decide, show ((8 : Int32)).toInt = 8 by decide, show ((9 : Int32)).toInt = 9 by decide, show ((10 : Int32)).toInt = 10 by decide]
  have z1 : ((1 : Int32)).toInt = 1 := by decide
  have z0 : ((0 : Int32)).toInt = 0 := by decide
  by_cases h1 : (FI 110 8).toInt = 7
  · rw [if_pos h1, z1]; omega
  · rw [if_neg h1]
    by_cases h2 : (FI 110 8).toInt = 91
    · rw [if_pos h2, z1]; omega
    · rw [if_neg h2]
      by_cases h3 : (FI 110 8).toInt = 8
      · rw [if_pos h3, z1]; omega
      · rw [if_neg h3]
        by_cases h4 : (FI 110 8).toInt = 9
        · rw [if_pos h4, z1]; omega
        · rw [if_neg h4]
          by_cases h5 : (FI 110 8).toInt = 10
          · rw [if_pos h5, z1]; omega
          · rw [if_neg h5, z0]; omega
/-- where a place may stand -/
theorem s_is (hq : q_tk K W M FI FL) (hv : s_vw M FI FL t o) : (lp_is (K t) (W t) = true ↔ ((FI 110 8).toInt = 7 ∨ (FI 110 8).toInt = 91 ∨ (FI 110 8).toInt = 8 ∨ (FI 110 8).toInt = 9 ∨ (FI 110 8).toInt = 10)) ∧ ((FI 110 8).toInt = 7 → t < M ∧ K t = 2 ∧ W t = 0) ∧ ((FI 110 8).toInt = 91 → t < M ∧ K t = 5 ∧ W t = 91) ∧ ((FI 110 8).toInt = 8 → t < M ∧ K t = 2 ∧ W t = 1) ∧ ((FI 110 8).toInt = 9 → t < M ∧ K t = 2 ∧ W t = 2) ∧ ((FI 110 8).toInt = 10 → t < M ∧ K t = 2 ∧ W t = 3) := by
  have hi : lp_is (K t) (W t) = true ↔ ((K t = 5 ∧ W t = 91) ∨ (K t = 2 ∧ (W t = 0 ∨ W t = 1 ∨ W t = 2 ∨ W t = 3))) := by
    unfold lp_is
    rw [decide_eq_true_eq]
  rw [hi]
  rcases s_kd hq hv with ⟨ht, kd, -, kr, -⟩ | ⟨-, kK, kd⟩
  · have ce := ck_e kr
    refine ⟨by omega, ?_, ?_, ?_, ?_, ?_⟩ <;> intro h <;> omega
  · refine ⟨by omega, ?_, ?_, ?_, ?_, ?_⟩ <;> intro h <;> omega
theorem s_place (hQ : h_S n SH) (hq : q_tk K W M FI FL) (hv : s_vw M FI FL t o) (h0 : 0 ≤ o) (h1 : o ≤ 1) (h : RX4_readPlace n sl SH FI FL FR v s) : ∃ n2 sl2 SH2 F2 L2 R2, v = some n ∧ s = (n2, sl2, SH2, F2, L2, R2) ∧ n < n2 ∧ b_ct n SH FI FL FR n2 SH2 F2 L2 R2 ∧ (F2 n 4).toInt = -1 ∧ R2 n 5 = none ∧ ((∃ t2 code, l_pl K W o t (some (t2, code)) ∧ t < t2 ∧ s_vw M F2 L2 t2 o ∧ m_pl F2 L2 R2 SH2 n n2 n code) ∨ (l_pl K W o t none ∧ s_ft F2)) := by
  have h176 := hQ.1
  obtain ⟨v0, n0, sl0, SH0, FI0, FL0, FR0, k0, v1, n1, sl1, SH1, FI1, FL1, FR1, k1, h⟩ := h
  have fz := b_nwz k0
  obtain ⟨sl', SH', F', L', R', e, q0, q1, q2, q3⟩ := b_nw hQ k0
  cases e
  obtain ⟨-, e⟩ := k1
  cases e
  have hQ1 := q0.2.1
  have b1 := b_wI (k := 4) (x := (-1 : Int32)) q0 h176 (Nat.le_refl _)
  obtain ⟨hq1, hv1⟩ := s_wI (c := n) (k := 4) (x := (-1 : Int32)) h176 (s_new h176 q0 q2 q3 hq hv)
  have is := s_is hq1 hv1
  have em : ((-1 : Int32)).toInt = -1 := by decide
  -- the cell of the place, before what it says is read
  obtain ⟨fI, hfI⟩ : ∃ f, f = h_up FI0 n 4 (-1 : Int32) := ⟨_, rfl⟩
  rw [← hfI] at h b1 hq1 hv1 is
  have f4 : (fI n 4).toInt = -1 := by rw [hfI, h_up_eq]; exact em
  have f0 : fI n 0 = 0 := by rw [hfI, h_up_ne (by decide)]; exact fz 0
  have r5 : FR0 n 5 = none := q1 5
  rcases h with ⟨hb, h⟩ | ⟨hb, h⟩
  · -- no place
    obtain ⟨v4, n4, sl4, SH4, FI4, FL4, FR4, hr, h⟩ := h
    rw [s_begins] at hb
    obtain ⟨F4, e, a4, ft⟩ := s_refuse hr (by decide) hq1 hv1
    cases e
    have hX : v = some n ∧ s = (n + 1, sl0, SH0, FI4, FL0, FR0) := by
      rcases h with ⟨h7, -⟩ | ⟨-, h⟩
      · exfalso; exact hb (Or.inl h7)
      · rcases h with ⟨h7, -⟩ | ⟨-, h⟩
        · exfalso; exact hb (Or.inr (Or.inl h7))
        · rcases h with ⟨h7, -⟩ | ⟨-, h⟩
          · exfalso; exact hb (Or.inr (Or.inr (Or.inl h7)))
          · rcases h with ⟨h7, -⟩ | ⟨-, rfl, rfl⟩
            · exfalso; exact hb (Or.inr (Or.inr (Or.inr (Or.inl h7))))
            · exact ⟨rfl, rfl⟩
    obtain ⟨rfl, rfl⟩ := hX
    refine ⟨_, _, _, _, _, _, rfl, rfl, by omega, b_tr b1 (b_a hQ1 a4 (fun h => absurd hv1.1 h)), by rw [a4.1 n 4 (by omega)]; exact f4, r5, Or.inr ⟨⟨0, fun f _ => ?_⟩, ft⟩⟩
    rw [if_neg (fun h => hb (is.1.mp h))]
  · rw [s_begins] at hb
    have hi : lp_is (K t) (W t) = true := is.1.mpr (Classical.byContradiction hb)
    rcases h with ⟨h91, h⟩ | ⟨h91, h⟩
    · -- [ E ]
      have h91 : (fI 110 8).toInt = 91 := h91
      obtain ⟨ht, hK⟩ := is.2.2.1 h91
      obtain ⟨v6, n6, sl6, SH6, FI6, FL6, FR6, hr, h⟩ := h
      obtain ⟨F6, e, a6, r6⟩ := s_raise hr hq1 hv1 h0
      cases e
      rcases r6 with ⟨ho, w6, w⟩ | ⟨ho, -, -⟩
      · rcases h with ⟨hz, -⟩ | ⟨-, h⟩
        · exfalso; omega
        · have hq6 := q_a hq1 a6
          obtain ⟨v7, n7, sl7, SH7, FI7, FL7, FR7, hk, h⟩ := h
          obtain ⟨F7, L7, e, a7, w7⟩ := s_take hk hq6 w ht
          cases e
          have hq7 := q_a hq6 a7
          rcases h with ⟨h7, -⟩ | ⟨-, h⟩
          · exfalso
            have h7 : (fI 110 8).toInt = 7 := h7
            omega
          · rcases h with ⟨-, h⟩ | ⟨hn, -⟩
            · obtain ⟨c7, e7, v8, n8, sl8, SH8, FI8, FL8, FR8, hm, c9, e9, v9, n9, sl9, SH9, FI9, FL9, FR9, hx, rfl, rfl⟩ := h
              cases e7
              cases e9
              obtain ⟨hq8, w8⟩ := s_wI (c := n) (k := 0) (x := (1 : Int32)) h176 ⟨hq7, w7⟩
              obtain ⟨c, n10, sl10, SH10, F10, L10, R10, rfl, e, g1, g2, qc, -, po⟩ := s_choice hQ1 hq8 w8 (by omega) (by omega) hm
              cases e
              have m8 := qc.1
              have b8 : b_ct n SH FI FL FR n8 SH8 FI8 FL8 FR8 := b_tr (b_wI (k := 0) (x := (1 : Int32)) (b_tr b1 (b_tr (b_a hQ1 a6 (fun h => absurd hv1.1 h)) (b_a hQ1 a7 (fun h => absurd w.1 h)))) h176 (Nat.le_refl _)) qc
              have e8 : ∀ k, FI8 n k = h_up FI7 n 0 (1 : Int32) n k := fun k => qc.2.2.1 n k (by omega) (by omega)
              have e84 : (FI8 n 4).toInt = -1 := by rw [e8, h_up_ne (by decide), a7.1 n 4 (by omega), a6.1 n 4 (by omega)]; exact f4
              have e80 : (FI8 n 0).toInt = 1 := by rw [e8, h_up_eq]; decide
              have r85 : FR8 n 5 = none := by rw [qc.2.2.2.2.1 n 5 (by omega)]; exact r5
              have b9 := b_wR (k := 2) (x := some c) b8 (Nat.le_refl n)
              rcases po with ⟨t2, code, lev, ht2, w9, nis, pk, -⟩ | ⟨lev, ft⟩
              · have hq9 := q_b hq8 qc (by omega)
                obtain ⟨F9', L9', e, a9, r9⟩ := s_expect (w := 93) hx (by decide) (by decide) hq9 w9
                cases e
                have b10 := b_w4 (x := FI9 110 4 - (1 : Int32)) (b_tr b9 (b_a qc.2.1 a9 (fun h => absurd w9.1 h)))
                obtain ⟨F0, lev⟩ := lev
                rcases r9 with ⟨ht3, rr, w10⟩ | ⟨rr, ft⟩
                · have kr2 := (hq9.2.1 t2 ht3).2.1
                  have ce2 := ck_e kr2
                  refine ⟨_, _, _, _, _, _, rfl, rfl, by omega, b10, by rw [h_up_nc (by omega), a9.1 n 4 (by omega)]; exact e84, by rw [h_up_ne (by decide)]; exact r85, Or.inl ⟨t2 + 1, code, ⟨F0, fun f hf => ?_⟩, by omega, s_low w10 h0 (by omega), h176, Nat.le_refl _, by omega, fun F2 L2 R2 S2 ha => ?_⟩⟩
                  · rw [if_pos hi]
                    unfold lp_pl
                    rw [if_pos hK, if_neg (by omega), lev f hf]
                    dsimp only
                    rw [if_pos (by omega)]
                  · have x0 : (F2 n 0).toInt = 1 := by rw [ha.1 n 0 (Nat.le_refl _) (by omega) (by omega), h_up_nc (by omega), a9.1 n 0 (by omega)]; exact e80
                    have x2 : R2 n 2 = some c := by rw [ha.2.2.1 n 2 (Nat.le_refl _) (by omega) (by omega), h_up_eq]
                    obtain ⟨fc, hfc⟩ := nis.2.2.2 F2 L2 R2 ⟨fun q k y1 y2 _ _ => by rw [ha.1 q k (by omega) (by omega) (by omega), h_up_nc (by omega)]; exact a9.1 q k (by omega), fun q k y1 y2 _ => by rw [ha.2.1 q k (by omega) (by omega)]; exact a9.2 q k (by omega), fun q k y1 y2 _ _ => by rw [ha.2.2.1 q k (by omega) (by omega) (by omega), h_up_nc (by omega)]⟩ 0 (by unfold p_H; omega)
                    exact ⟨h176, Or.inl ⟨x0, fc, by rw [x2]; exact hfc⟩⟩
                · have n93 : ¬ (K t2 = 5 ∧ W t2 = 93) := by
                    intro h93
                    rcases s_kd hq9 w9 with ⟨k1, -, -, kr2, -⟩ | ⟨-, k1, -⟩
                    · have ce2 := ck_e kr2
                      have := rr k1
                      omega
                    · omega
                  refine ⟨_, _, _, _, _, _, rfl, rfl, by omega, b10, by rw [h_up_nc (by omega), a9.1 n 4 (by omega)]; exact e84, by rw [h_up_ne (by decide)]; exact r85, Or.inr ⟨⟨F0, fun f hf => ?_⟩, ft_4 ft⟩⟩
                  rw [if_pos hi]
                  unfold lp_pl
                  rw [if_pos hK, if_neg (by omega), lev f hf]
                  dsimp only
                  rw [if_neg n93]
              · have e := s_expect_f hx ft.1
                cases e
                obtain ⟨F0, lev⟩ := lev
                refine ⟨_, _, _, _, _, _, rfl, rfl, by omega, b_w4 b9, by rw [h_up_nc (by omega)]; exact e84, by rw [h_up_ne (by decide)]; exact r85, Or.inr ⟨⟨F0, fun f hf => ?_⟩, ft_4 ft⟩⟩
                rw [if_pos hi]
                unfold lp_pl
                rw [if_pos hK, if_neg (by omega), lev f hf]
            · exact absurd h91 hn
      · exfalso; omega
    · -- reg, value, bytes, none
      have h91 : (fI 110 8).toInt ≠ 91 := h91
      have hW : t < M ∧ K t = 2 := by
        rcases Classical.byContradiction hb with x | x | x | x | x
        · have := is.2.1 x; omega
        · exact absurd x h91
        · have := is.2.2.2.1 x; omega
        · have := is.2.2.2.2.1 x; omega
        · have := is.2.2.2.2.2 x; omega
      have hn5 : ¬ (K t = 5 ∧ W t = 91) := by omega
      obtain ⟨v7, n7, sl7, SH7, FI7, FL7, FR7, hk, h⟩ := h
      obtain ⟨F7, L7, e, a7, w7⟩ := s_take hk hq1 hv1 hW.1
      cases e
      have hq7 := q_a hq1 a7
      have b7 := b_tr b1 (b_a hQ1 a7 (fun h => absurd hv1.1 h))
      have e74 : (FI7 n 4).toInt = -1 := by rw [a7.1 n 4 (by omega)]; exact f4
      rcases h with ⟨h7, h⟩ | ⟨h7, h⟩
      · -- reg
        have h7 : (fI 110 8).toInt = 7 := h7
        obtain ⟨-, -, hW0⟩ := is.2.1 h7
        obtain ⟨c2, e2, v2, n2, sl2, SH2, FI2, FL2, FR2, hh, c4, e4, v4, n4, sl4, SH4, FI4, FL4, FR4, hx, rfl, rfl⟩ := h
        cases e2
        cases e4
        obtain ⟨hq8, w8⟩ := s_wI (c := n) (k := 0) (x := (2 : Int32)) h176 ⟨hq7, w7⟩
        obtain ⟨F9, L9, e, a9, r9⟩ := s_reg h176 hh hx hq8 w8
        cases e
        have b9 : b_ct n SH FI FL FR (n + 1) SH0 FI4 FL4 FR0 := b_tr (b_wL (k := 1) (x := v2) (b_wI (k := 0) (x := (2 : Int32)) b7 h176 (Nat.le_refl _)) (Nat.le_refl _)) (b_a hQ1 a9 (fun h => absurd w8.1 h))
        have e94 : (FI4 n 4).toInt = -1 := by rw [a9.1 n 4 (by omega), h_up_ne (by decide)]; exact e74
        have e90 : (FI4 n 0).toInt = 2 := by rw [a9.1 n 0 (by omega), h_up_eq]; decide
        rcases r9 with ⟨k3, k31, k0', l1, w9⟩ | ⟨kn, ft⟩
        · refine ⟨_, _, _, _, _, _, rfl, rfl, by omega, b9, e94, r5, Or.inl ⟨t + 2, [80 + W (t + 1)], ⟨0, fun f hf => ?_⟩, by omega, w9, h176, Nat.le_refl _, by omega, fun F2 L2 R2 S2 ha => ⟨h176, Or.inr (Or.inl ⟨?_, ?_, ?_, ?_⟩)⟩⟩⟩
          · rw [if_pos hi]
            unfold lp_pl
            rw [if_neg hn5, if_pos hW0, if_pos ⟨k3, k31⟩]
          · rw [ha.1 n 0 (Nat.le_refl _) (by omega) (by omega)]; exact e90
          · rw [ha.2.1 n 1 (Nat.le_refl _) (by omega), l1]; exact k0'
          · rw [ha.2.1 n 1 (Nat.le_refl _) (by omega), l1]; exact k31
          · rw [ha.2.1 n 1 (Nat.le_refl _) (by omega), l1]
        · refine ⟨_, _, _, _, _, _, rfl, rfl, by omega, b9, e94, r5, Or.inr ⟨⟨0, fun f hf => ?_⟩, ft⟩⟩
          rw [if_pos hi]
          unfold lp_pl
          rw [if_neg hn5, if_pos hW0, if_neg kn]
      · have h7 : (fI 110 8).toInt ≠ 7 := h7
        have hW0 : W t ≠ 0 := by
          rcases Classical.byContradiction hb with x | x | x | x | x
          · exact absurd x h7
          · exact absurd x h91
          · have := is.2.2.2.1 x; omega
          · have := is.2.2.2.2.1 x; omega
          · have := is.2.2.2.2.2 x; omega
        rcases h with ⟨h, -⟩ | ⟨-, h⟩
        · exact absurd h h91
        · rcases h with ⟨h8, h⟩ | ⟨h8, h⟩
          · -- value
            have h8 : (fI 110 8).toInt = 8 := h8
            obtain ⟨-, -, hW1⟩ := is.2.2.2.1 h8
            obtain ⟨c7, e7, v8, n8, sl8, SH8, FI8, FL8, FR8, hm, c9, e9, rfl, rfl⟩ := h
            cases e7
            cases e9
            obtain ⟨hq8, w8⟩ := s_wI (c := n) (k := 0) (x := (3 : Int32)) h176 ⟨hq7, w7⟩
            obtain ⟨c, n10, sl10, SH10, F10, L10, R10, rfl, e, g1, g2, qc, -, po⟩ := s_choice hQ1 hq8 w8 h0 (by omega) hm
            cases e
            have m8 := qc.1
            have b8 : b_ct n SH FI FL FR n8 SH8 FI8 FL8 FR8 := b_tr (b_wI (k := 0) (x := (3 : Int32)) b7 h176 (Nat.le_refl _)) qc
            have e8 : ∀ k, FI8 n k = h_up FI7 n 0 (3 : Int32) n k := fun k => qc.2.2.1 n k (by omega) (by omega)
            have e84 : (FI8 n 4).toInt = -1 := by rw [e8, h_up_ne (by decide)]; exact e74
            have e80 : (FI8 n 0).toInt = 3 := by rw [e8, h_up_eq]; decide
            have r85 : FR8 n 5 = none := by rw [qc.2.2.2.2.1 n 5 (by omega)]; exact r5
            have b9 := b_wR (k := 2) (x := some c) b8 (Nat.le_refl n)
            rcases po with ⟨t2, code, lev, ht2, w9, nis, pk, -⟩ | ⟨lev, ft⟩
            · obtain ⟨F0, lev⟩ := lev
              refine ⟨_, _, _, _, _, _, rfl, rfl, by omega, b9, e84, by rw [h_up_ne (by decide)]; exact r85, Or.inl ⟨t2, code ++ [159], ⟨F0, fun f hf => ?_⟩, by omega, w9, h176, Nat.le_refl _, by omega, fun F2 L2 R2 S2 ha => ?_⟩⟩
              · rw [if_pos hi]
                unfold lp_pl
                rw [if_neg hn5, if_neg hW0, if_pos hW1, lev f hf]
              · have x0 : (F2 n 0).toInt = 3 := by rw [ha.1 n 0 (Nat.le_refl _) (by omega) (by omega)]; exact e80
                have x2 : R2 n 2 = some c := by rw [ha.2.2.1 n 2 (Nat.le_refl _) (by omega) (by omega), h_up_eq]
                obtain ⟨fc, hfc⟩ := nis.2.2.2 F2 L2 R2 ⟨fun q k y1 y2 _ _ => ha.1 q k (by omega) (by omega) (by omega), fun q k y1 y2 _ => ha.2.1 q k (by omega) (by omega), fun q k y1 y2 _ _ => by rw [ha.2.2.1 q k (by omega) (by omega) (by omega), h_up_nc (by omega)]⟩ 0 (by unfold p_H; omega)
                exact ⟨h176, Or.inr (Or.inr (Or.inl ⟨x0, fc, code, by rw [x2]; exact hfc, rfl⟩))⟩
            · obtain ⟨F0, lev⟩ := lev
              refine ⟨_, _, _, _, _, _, rfl, rfl, by omega, b9, e84, by rw [h_up_ne (by decide)]; exact r85, Or.inr ⟨⟨F0, fun f hf => ?_⟩, ft⟩⟩
              rw [if_pos hi]
              unfold lp_pl
              rw [if_neg hn5, if_neg hW0, if_pos hW1, lev f hf]
          · have h8 : (fI 110 8).toInt ≠ 8 := h8
            rcases h with ⟨h9, h⟩ | ⟨h9, h⟩
            · -- bytes
              have h9 : (fI 110 8).toInt = 9 := h9
              obtain ⟨-, -, hW2⟩ := is.2.2.2.2.1 h9
              obtain ⟨c7, e7, v8, n8, sl8, SH8, FI8, FL8, FR8, hm, c9, e9, rfl, rfl⟩ := h
              cases e7
              cases e9
              obtain ⟨hq8, w8⟩ := s_wI (c := n) (k := 0) (x := (4 : Int32)) h176 ⟨hq7, w7⟩
              obtain ⟨gb, hm⟩ := hm
              obtain ⟨sl10, SH10, F10, L10, R10, rfl, e, qc, po⟩ := s_bl gb _ _ _ _ _ _ (t + 1) 0 [] hm hQ1 hq8 w8 (by decide) (by decide) rfl (by decide) (fun i hi => by omega)
              cases e
              have b8 : b_ct n SH FI FL FR (n + 1 + 1) SH8 FI8 FL8 FR8 := b_tr (b_wI (k := 0) (x := (4 : Int32)) b7 h176 (Nat.le_refl _)) qc
              have e8 : ∀ k, FI8 n k = h_up FI7 n 0 (4 : Int32) n k := fun k => qc.2.2.1 n k (by omega) (by omega)
              have e84 : (FI8 n 4).toInt = -1 := by rw [e8, h_up_ne (by decide)]; exact e74
              have e80 : (FI8 n 0).toInt = 4 := by rw [e8, h_up_eq]; decide
              have r85 : FR8 n 5 = none := by rw [qc.2.2.2.2.1 n 5 (by omega)]; exact r5
              have b9 := b_wR (k := 3) (x := some (n + 1)) b8 (Nat.le_refl n)
              rcases po with ⟨t2, c, p1, p2, p3, p4, p5, p6, p7⟩ | ⟨ft, p⟩
              · have k3 : K (t + 1) = 3 := by
                  refine Classical.byContradiction fun hn3 => ?_
                  have e := p1 66 (by decide)
                  rw [lp_bl, if_neg hn3] at e
                  have e2 := congrArg Prod.snd (Option.some.inj e)
                  dsimp only at e2
                  rw [← e2, List.length_nil] at p2
                  omega
                rw [Nat.zero_add] at p2 p5 p6 p7
                rw [List.nil_append] at p7
                have p1' := p1 1100 (by decide)
                have tlt : t < t2 := by omega
                refine ⟨_, _, _, _, _, _, rfl, rfl, by omega, b9, e84, by rw [h_up_ne (by decide)]; exact r85, Or.inl ⟨t2, 158 :: (c.length : Int) :: c, ⟨0, fun f hf => ?_⟩, tlt, p4, h176, Nat.le_refl _, by omega, fun F2 L2 R2 S2 ha => ?_⟩⟩
                · rw [if_pos hi]
                  unfold lp_pl
                  rw [if_neg hn5, if_neg hW0, if_neg (by omega), if_pos hW2, if_pos k3, p1']
                · have x0 : (F2 n 0).toInt = 4 := by rw [ha.1 n 0 (Nat.le_refl _) (by omega) (by omega)]; exact e80
                  have x2 : R2 n 3 = some (n + 1) := by rw [ha.2.2.1 n 3 (Nat.le_refl _) (by omega) (by omega), h_up_eq]
                  exact ⟨h176, Or.inr (Or.inr (Or.inr (Or.inl ⟨x0, n + 1, c, x2, by omega, by rw [ha.2.2.2 (n + 1) (by omega) (by omega)]; exact p5, p6, fun i hi2 => by rw [ha.1 (n + 1) i (by omega) (by omega) (by omega)]; exact p7 i hi2, rfl⟩)))⟩
              · refine ⟨_, _, _, _, _, _, rfl, rfl, by omega, b9, e84, by rw [h_up_ne (by decide)]; exact r85, Or.inr ⟨⟨0, fun f hf => ?_⟩, ft⟩⟩
                rw [if_pos hi]
                unfold lp_pl
                rw [if_neg hn5, if_neg hW0, if_neg (by omega), if_pos hW2]
                by_cases k3 : K (t + 1) = 3
                · rcases p with p | ⟨-, p⟩
                  · rw [if_pos k3, p 1100 (by decide)]
                  · exact absurd k3 p
                · rw [if_neg k3]
            · -- none
              have h9 : (fI 110 8).toInt ≠ 9 := h9
              obtain ⟨rfl, rfl⟩ := h
              have hW3 : W t = 3 := by
                rcases Classical.byContradiction hb with x | x | x | x | x
                · exact absurd x h7
                · exact absurd x h91
                · exact absurd x h8
                · exact absurd x h9
                · have := is.2.2.2.2.2 x; omega
              refine ⟨_, _, _, _, _, _, rfl, rfl, by omega, b7, e74, r5, Or.inl ⟨t + 1, [], ⟨0, fun f hf => ?_⟩, by omega, w7, h176, Nat.le_refl _, by omega, fun F2 L2 R2 S2 ha => ⟨h176, Or.inr (Or.inr (Or.inr (Or.inr ⟨?_, rfl⟩)))⟩⟩⟩
              · rw [if_pos hi]
                unfold lp_pl
                rw [if_neg hn5, if_neg hW0, if_neg (by omega), if_neg (by omega)]
              · rw [ha.1 n 0 (Nat.le_refl _) (by omega) (by omega), a7.1 n 0 (by omega), f0]
                decide
end PQ
end
