/-! THE CLASS'S PARSER: the text. -/
theorem t_tl_el {X : Nat → Int} {N : Nat} : ∀ (f i : Nat) (x : Int × Int × Nat), x ∈ t_tl X N f i → x.1 ≠ 0 → x.2.2 < N ∧ x.1 = (t_tk X N x.2.2).1 ∧ x.2.1 = (t_tk X N x.2.2).2.1 := by
  intro f
  induction f with
  | zero => intro i x hx; rw [t_tl] at hx; cases hx
  | succ f ih =>
    intro i x hx h0
    rw [t_tl] at hx
    by_cases h1 : i < N
    · rw [if_pos h1] at hx
      by_cases h2 : t_bl (t_sg X N i) = true
      · rw [if_pos h2] at hx
        exact ih _ x hx h0
      · rw [if_neg h2] at hx
        rcases List.mem_cons.mp hx with rfl | hx
        · exact ⟨h1, rfl, rfl⟩
        · exact ih _ x hx h0
    · rw [if_neg h1] at hx
      rcases List.mem_cons.mp hx with rfl | hx
      · exact absurd rfl h0
      · cases hx
theorem t_tl_len {X : Nat → Int} {N : Nat} (hN : N ≤ 1000) : ∀ (f i : Nat), i ≤ N → (t_tl X N f i).length ≤ N - i + 1 := by
  intro f
  induction f with
  | zero => intro i _; rw [t_tl]; exact Nat.zero_le _
  | succ f ih =>
    intro i hi
    rw [t_tl]
    by_cases h1 : i < N
    · rw [if_pos h1]
      by_cases h2 : t_bl (t_sg X N i) = true
      · rw [if_pos h2]
        have := ih (i + 1) (by omega)
        omega
      · rw [if_neg h2]
        have h3 := t_tk_ok (X := X) h1 hN
        have h4 := t_tk_e (X := X) h1 hN
        have := ih (t_tk X N i).2.2 h4.2
        rw [List.length_cons]
        have := h4.1
        omega
    · rw [if_neg h1, List.length_singleton]
      omega
/-- a name's letters -/
theorem t_tk_nm {X : Nat → Int} {N p : Nat} (hp : p < N) (h : (t_tk X N p).1 = 1) : ∃ m, (t_tk X N p).2.2 = p + m ∧ 1 ≤ m ∧ m ≤ 8 ∧ p + m ≤ N ∧ (∀ j, j < m → t_al (t_sg X N (p + j)) = true) ∧ (t_tk X N p).2.1 = t_wv X N p m := by
  unfold t_tk at h ⊢
  by_cases h1 : t_sm (t_sg X N p) = true
  · rw [if_pos h1] at h ⊢
    by_cases h2 : t_rn t_al X N 1001 p - p > 8
    · rw [if_pos h2] at h
      exact absurd h (by first | decide | (dsimp only; decide) | simp)
    · rw [if_neg h2] at h ⊢
      by_cases h3 : t_wd (t_wv X N p (t_rn t_al X N 1001 p - p)) = -1
      · rw [if_pos h3]
        have g1 := t_rn_ge (p := t_al) (X := X) (N := N) 1001 p
        have g2 := t_rn_le (p := t_al) (by decide) (X := X) (N := N) 1001 p (by omega)
        have al : t_al (t_sg X N p) = true := by unfold t_al; rw [h1]; rfl
        have g3 : p + 1 ≤ t_rn t_al X N 1001 p := by
          rw [t_rn, if_pos al]
          exact t_rn_ge 1000 (p + 1)
        exact ⟨t_rn t_al X N 1001 p - p, by show t_rn t_al X N 1001 p = _; omega, by omega, by omega, by omega, fun j hj => t_rn_in 1001 p (p + j) (by omega) (by omega), rfl⟩
      · rw [if_neg h3] at h
        exact absurd h (by show ¬ (2 : Int) = 1; decide)
  · exfalso
    rw [if_neg h1] at h
    by_cases h2 : t_dg (t_sg X N p) = true
    · rw [if_pos h2] at h
      dsimp only at h
      split at h
      · exact absurd h (by decide)
      · split at h <;> exact absurd h (by decide)
    · rw [if_neg h2] at h
      by_cases h3 : t_sg X N p = 64
      · rw [if_pos h3] at h
        split at h <;> exact absurd h (by first | decide | (dsimp only; decide) | simp)
      · rw [if_neg h3] at h
        unfold t_sn at h
        split at h
        · exact absurd h (by first | decide | (dsimp only; decide) | simp)
        · split at h <;> exact absurd h (by first | decide | (dsimp only; decide) | simp)
section YQ
variable {X : Nat → Int} {N : Nat} {K W : Nat → Int}
/-- the places of the tokens too -/
theorem y_ok_q2 {F : Nat → Nat → Int32} {L : Nat → Nat → Int64} (hN : N ≤ 1000) : ∀ (l : List (Int × Int × Nat)) (j : Nat), y_ok X N F L l j → (∀ i x, l[i]? = some x → K (j + i) = x.1 ∧ W (j + i) = x.2.1 ∧ (x.1 ≠ 0 → x.2.2 < N ∧ x.1 = (t_tk X N x.2.2).1 ∧ x.2.1 = (t_tk X N x.2.2).2.1)) → j + l.length ≤ 1001 → ∃ M, j ≤ M ∧ M < j + l.length ∧ (∀ i, j ≤ i → i < M → K i ≠ 0 ∧ k_rg (K i) (W i) ∧ (F 112 i).toInt = t_ck (K i) (W i) ∧ (K i = 3 → (L 113 i).toInt = W i ∧ 0 ≤ W i ∧ W i ≤ 999999999999999999) ∧ (K i = 4 → (L 113 i).toInt = W i ∧ 1 ≤ W i ∧ W i ≤ 8)) ∧ ((K M = 0 ∧ (F 112 M).toInt = 2 ∧ (F 111 4).toInt = ((M + 1 : Nat) : Int)) ∨ (K M = 6 ∧ (((F 112 M).toInt = 3 ∧ (F 111 4).toInt = ((M + 1 : Nat) : Int)) ∨ ((F 112 M).toInt = 4 ∧ ((M + 2 : Nat) : Int) ≤ (F 111 4).toInt ∧ (F 112 (M + 1)).toInt ≠ 61)))) ∧ (∀ i, j ≤ i → i < M → ∃ p : Nat, (F 114 i).toInt = p ∧ p < N ∧ (F 115 i).toInt = ((t_tk X N p).2.2 : Int) ∧ K i = (t_tk X N p).1 ∧ W i = (t_tk X N p).2.1) := by
  intro l
  induction l with
  | nil => intro j h; exact h.elim
  | cons x l ih =>
    intro j h hK hl
    rw [List.length_cons] at hl ⊢
    have k0 := hK 0 x rfl
    rw [Nat.add_zero] at k0
    rw [y_ok] at h
    obtain ⟨h114, h | h | h⟩ := h
    · exact ⟨j, Nat.le_refl _, by omega, fun i h1 h2 => by omega, Or.inl ⟨k0.1.trans h.1, h.2⟩, fun i h1 h2 => by omega⟩
    · obtain ⟨h0, h6, hk, h115, hw, h⟩ := h
      obtain ⟨M, m1, m2, m3, m4, m5⟩ := ih (j + 1) h (fun i y hy => by
        have := hK (i + 1) y hy
        rw [show j + (i + 1) = j + 1 + i by omega] at this
        exact this) (by omega)
      have p := k0.2.2 h0
      refine ⟨M, by omega, by omega, fun i h1 h2 => ?_, m4, fun i h1 h2 => ?_⟩
      · by_cases e : i = j
        · subst e
          have kw := t_tk_kw (X := X) p.1 hN
          have tk := t_tk_ok (X := X) p.1 hN
          rw [← p.2.1, ← p.2.2] at kw tk
          rw [k0.1, k0.2.1]
          refine ⟨h0, ?_, hk, fun h3 => ⟨hw (Or.inl h3), (tk.2.1 h3).1⟩, fun h4 => ⟨hw (Or.inr h4), (tk.2.2.1 h4).1⟩⟩
          rcases kw with kw | kw | kw | kw | kw | kw
          · exact Or.inr (Or.inl kw.1)
          · exact Or.inr (Or.inr (Or.inl kw))
          · exact Or.inr (Or.inr (Or.inr (Or.inl kw)))
          · exact Or.inr (Or.inr (Or.inr (Or.inr (Or.inl kw))))
          · exact Or.inr (Or.inr (Or.inr (Or.inr (Or.inr kw))))
          · exact absurd kw h6
        · exact m3 i (by omega) h2
      · by_cases e : i = j
        · subst e
          exact ⟨x.2.2, h114, p.1, h115, by rw [k0.1]; exact p.2.1, by rw [k0.2.1]; exact p.2.2⟩
        · exact m5 i (by omega) h2
    · exact ⟨j, Nat.le_refl _, by omega, fun i h1 h2 => by omega, Or.inr ⟨k0.1.trans h.1, h.2⟩, fun i h1 h2 => by omega⟩
end YQ
section YF
variable {X : Nat → Int} {N tp : Nat} {n sl : Nat} {SH : Nat → Nat × Nat} {FR : Nat → Nat → Option Nat} {a1 : Option Nat} {a2 : Int32}
/-- what readAll leaves alone -/
def y_lf (FI F2 : Nat → Nat → Int32) (FL L2 : Nat → Nat → Int64) : Prop := (∀ c k, ¬ (110 ≤ c ∧ c ≤ 115) → F2 c k = FI c k) ∧ (∀ c k, ¬ (110 ≤ c ∧ c ≤ 115) → L2 c k = FL c k)
theorem y_turn2 {g : Nat} {FI : Nat → Nat → Int32} {FL : Nat → Nat → Int64} {v : Unit} {s : hS} {b j : Nat} (hS : h_S n SH) (h : GX7_readAll_30 a1 a2 (g + 1) n sl SH FI FL FR v s) (hy : y_vw SH FI FR tp X N) (h8 : (FI 111 8).toInt = b) (hb : b ≤ N) (h4 : (FI 111 4).toInt = j) (hj : j ≤ 1001) : s = (n, sl, SH, FI, FL, FR) ∨ (j < 1001 ∧ ∃ F2 L2 e, GX7_readAll_30 a1 a2 g n sl SH F2 L2 FR v s ∧ y_vw SH F2 FR tp X N ∧ (F2 111 4).toInt = ((j + 1 : Nat) : Int) ∧ (F2 111 8).toInt = ((e : Nat) : Int) ∧ y_is X N (t_sk X N 1001 b) (F2 111 9).toInt e (L2 111 10).toInt ∧ y_lf FI F2 FL L2) := by
  have hN := hy.2.1
  have hz : (Int32.ofNat (SH 112).2).toInt = 1001 := by rw [s112 hS]; decide
  rcases h with ⟨h1, h⟩ | ⟨h1, h⟩
  · rw [h4, hz] at h1
    rcases h with ⟨h2, h⟩ | ⟨h2, h⟩
    · exact Or.inl h.2
    · rcases h with ⟨h3, h⟩ | ⟨h3, h⟩
      · exact Or.inl h.2
      · obtain ⟨v3, n3, sl3, SH3, FI3, FL3, FR3, ⟨gt, hc⟩, -, -, -, -, h⟩ := h
        obtain ⟨F2, L2, e, w1, w2, w3, w4, w5⟩ := y_readToken_G gt FI v3 _ 1001 b hc hy h8 hb (by omega)
        cases w1
        have f4 : FI3 111 4 = FI 111 4 := w2.1 111 4 (by decide)
        have f4' : (FI3 111 4).toInt = j := by rw [f4]; exact h4
        have f4n : (FI3 111 4).toInt.toNat = j := by omega
        rw [f4n] at h
        refine Or.inr ⟨by omega, _, _, e, h, ?_, ?_, ?_, ?_, ?_, ?_⟩
        · have t1 := hy.2.2.2.2.1
          have t2 := hy.2.2.2.2.2.1
          have t3 := hy.2.2.2.2.2.2.1
          have t4 := hy.2.2.2.2.2.2.2.1
          refine ⟨?_, hN, hy.2.2.1, hy.2.2.2.1, t1, t2, t3, t4, ?_⟩
          · rw [h_up_x (by decide), h_up_nc (by decide), h_up_nc (by decide), h_up_nc (by decide), w2.1 111 6 (by decide)]
            exact hy.1
          · intro i hi
            rw [h_up_nc t1, h_up_nc t4, h_up_nc t3, h_up_nc t2, w2.1 tp i (fun h => t1 h.1)]
            exact hy.2.2.2.2.2.2.2.2 i hi
        · rw [h_up_eq, i_add f4' (by decide : ((1 : Int32)).toInt = 1) (by omega) (by omega)]; omega
        · rw [h_up_x (by decide), h_up_nc (by decide), h_up_nc (by decide), h_up_nc (by decide)]; exact w4
        · rw [h_up_x (by decide), h_up_nc (by decide), h_up_nc (by decide), h_up_nc (by decide), h_up_nc (by decide)]; exact w5
        · intro c k hx
          rw [h_up_nc (by omega), h_up_nc (by omega), h_up_nc (by omega), h_up_nc (by omega)]
          exact w2.1 c k (by omega)
        · intro c k hx
          rw [h_up_nc (by omega)]
          exact w2.2 c k (by omega)
  · exact Or.inl h.2
theorem y_lf_t {F1 F2 F3 : Nat → Nat → Int32} {L1 L2 L3 : Nat → Nat → Int64} (h : y_lf F1 F2 L1 L2) (h2 : y_lf F2 F3 L2 L3) : y_lf F1 F3 L1 L3 := ⟨fun c k hx => (h2.1 c k hx).trans (h.1 c k hx), fun c k hx => (h2.2 c k hx).trans (h.2 c k hx)⟩
theorem y_rest2 (hQ : h_S n SH) : ∀ (g : Nat) (FI : Nat → Nat → Int32) (FL : Nat → Nat → Int64) (v : Unit) (s : hS) (b j : Nat), GX7_readAll_30 a1 a2 g n sl SH FI FL FR v s → y_vw SH FI FR tp X N → (FI 111 8).toInt = b → (b ≤ N ∨ (FI 111 9).toInt = 3) → (FI 111 4).toInt = j → j ≤ 1001 → ∃ F2 L2, s = (n, sl, SH, F2, L2, FR) ∧ y_lf FI F2 FL L2 := by
  intro g
  induction g with
  | zero => intro FI FL v s b j h; exact h.elim
  | succ g ih =>
    intro FI FL v s b j h hy h8 hb h4 hj
    have hN := hy.2.1
    have same : s = (n, sl, SH, FI, FL, FR) → ∃ F2 L2, s = (n, sl, SH, F2, L2, FR) ∧ y_lf FI F2 FL L2 := fun e => ⟨FI, FL, e, fun _ _ _ => rfl, fun _ _ _ => rfl⟩
    by_cases h3 : (FI 111 9).toInt = 3
    · exact same (y_stop h (Or.inr h3))
    · have hb2 : b ≤ N := hb.resolve_right h3
      have sk := t_tl_sk (X := X) hN 1001 b hb2 (by omega)
      rcases y_turn2 hQ h hy h8 hb2 h4 hj with q | ⟨q3, F2, L2, e, w1, w2, w3, w4, w5, w6⟩
      · exact same q
      · have ie := y_is_e hN sk.2.1 w5
        obtain ⟨F3, L3, z1, z2⟩ := ih F2 L2 v s e (j + 1) w1 w2 w4 (by rcases ie with i | i | i; exact Or.inl (by omega); exact Or.inr i; exact Or.inl i.2.1) w3 (by omega)
        exact ⟨F3, L3, z1, y_lf_t w6 z2⟩
theorem y_readAll_fr {FI : Nat → Nat → Int32} {FL : Nat → Nat → Int64} {v : Unit} {s : hS} (hQ : h_S n SH) (h : RX7_readAll (some tp) a2 n sl SH FI FL FR v s) (ha : a2.toInt = N) (hN : N ≤ 1000) (hz : (SH tp).2 = 1000) (ht : tp ≠ 111 ∧ tp ≠ 112 ∧ tp ≠ 114 ∧ tp ≠ 115) (hX : ∀ i, i < N → (FI tp i).toInt = X i ∧ 0 ≤ X i ∧ X i ≤ 255) : ∃ F2 L2, s = (n, sl, SH, F2, L2, h_up FR 111 5 (some tp)) ∧ y_lf FI F2 FL L2 := by
  obtain ⟨c2, e2, g, h⟩ := h
  cases e2
  have hm : fJ9_min_7cf53 a2 (Int32.ofNat (SH tp).2) SH FI FL (h_up FR 111 5 (some tp)) = a2 := by
    unfold fJ9_min_7cf53
    rw [hz, if_neg]
    rw [ha, show (Int32.ofNat 1000).toInt = 1000 by decide]
    omega
  rw [hm] at h
  have hy : y_vw SH (h_up (h_up (h_up (h_up FI 111 6 a2) 111 8 ((0 : Int32))) 111 4 ((0 : Int32))) 111 9 ((1 : Int32))) (h_up FR 111 5 (some tp)) tp X N := by
    refine ⟨?_, hN, h_up_eq, hz, ht.1, ht.2.1, ht.2.2.1, ht.2.2.2, ?_⟩
    · rw [h_up_x (by decide), h_up_x (by decide), h_up_x (by decide), h_up_eq]
      exact ha
    · intro i hi
      rw [h_up_nc ht.1, h_up_nc ht.1, h_up_nc ht.1, h_up_nc ht.1]
      exact hX i hi
  obtain ⟨F2, L2, q1, q2⟩ := y_rest2 hQ g _ FL v s 0 0 h hy (by rw [h_up_x (by decide), h_up_x (by decide), h_up_eq]; rfl) (Or.inl (Nat.zero_le _)) (by rw [h_up_x (by decide), h_up_eq]; rfl) (by omega)
  exact ⟨F2, L2, q1, fun c k hx => by rw [q2.1 c k hx, h_up_nc (by omega), h_up_nc (by omega), h_up_nc (by omega), h_up_nc (by omega)], q2.2⟩
end YF
/-- begin: the tokens, no variable yet -/
theorem s_begin {n sl N : Nat} {X K W : Nat → Int} {SH : Nat → Nat × Nat} {FI : Nat → Nat → Int32} {FL : Nat → Nat → Int64} {FR : Nat → Nat → Option Nat} {a2 : Int32} {u : Unit} {s : hS} (hQ : h_S n SH) (h : RX4_begin (some 19) a2 n sl SH FI FL FR u s) (ha : a2.toInt = N) (hN : N ≤ 1000) (hX : ∀ i, i < N → (FI 19 i).toInt = X i ∧ 0 ≤ X i ∧ X i ≤ 255) (hK : ∀ i x, (t_tl X N 1001 0)[i]? = some x → K i = x.1 ∧ W i = x.2.1) : ∃ M sl2 SH2 F2 L2 R2, s = (n + 1, sl2, SH2, F2, L2, R2) ∧ M ≤ N ∧ M < (t_tl X N 1001 0).length ∧ h_S (n + 1) SH2 ∧ q_tk K W M F2 L2 ∧ q_nm K W M X N F2 R2 ∧ s_vw M F2 L2 0 0 ∧ d_st F2 L2 R2 SH2 (n + 1) n [] ∧ (∀ c k, c < n → ¬ (110 ≤ c ∧ c ≤ 115) → F2 c k = FI c k) ∧ (∀ c k, c < n → ¬ (110 ≤ c ∧ c ≤ 115) → L2 c k = FL c k) ∧ (∀ c k, c < n → ¬ (110 ≤ c ∧ c ≤ 111) → R2 c k = FR c k) ∧ (∀ c, c < n → SH2 c = SH c) := by
  have h176 := hQ.1
  have e19 : SH 19 = (100, 1000) := hQ.2 19 (by decide)
  obtain ⟨v0, n0, sl0, SH0, FI0, FL0, FR0, hr, v1, n1, sl1, SH1, FI1, FL1, FR1, hn, v8, n8, sl8, SH8, FI8, FL8, FR8, ht, -, rfl⟩ := h
  obtain ⟨F2, L2, e, fr⟩ := y_readAll_fr hQ hr ha hN (by rw [e19]) ⟨by decide, by decide, by decide, by decide⟩ hX
  cases e
  obtain ⟨F2, L2, e, hy, ho⟩ := y_readAll hQ hr ha hN (by rw [e19]) ⟨by decide, by decide, by decide, by decide⟩ hX
  cases e
  obtain ⟨rfl, w, es, -, er⟩ := y_na hn
  have hl := t_tl_len (X := X) hN 1001 0 (Nat.zero_le _)
  obtain ⟨M, -, m2, m3, m4, m5⟩ := y_ok_q2 (K := K) (W := W) hN (t_tl X N 1001 0) 0 ho (fun i x hx => ⟨by rw [Nat.zero_add]; exact (hK i x hx).1, by rw [Nat.zero_add]; exact (hK i x hx).2, t_tl_el 1001 0 x (List.mem_of_getElem? hx)⟩) (by omega)
  have f1 : ∀ c, c < n → FI1 c = FI0 c := fun c hc => w.2.1 c (by omega)
  have l1 : ∀ c, c < n → FL1 c = FL0 c := fun c hc => w.2.2.1 c (by omega)
  obtain ⟨gE, hgE⟩ : ∃ f, f = h_up (h_up (h_up (h_up (h_up FI1 110 3 ((0 : Int32))) 110 4 ((0 : Int32))) 110 5 ((0 : Int32))) 110 6 ((-1 : Int32))) 110 7 ((-1 : Int32)) := ⟨_, rfl⟩
  rw [← hgE] at ht
  have gc : ∀ c, c ≠ 110 → gE c = FI1 c := fun c hc => by rw [hgE, h_up_nc hc, h_up_nc hc, h_up_nc hc, h_up_nc hc, h_up_nc hc]
  have g7 : gE 110 7 = -1 := by rw [hgE, h_up_eq]
  have g5 : gE 110 5 = 0 := by rw [hgE, h_up_ne (by decide), h_up_ne (by decide), h_up_eq]
  have g4 : gE 110 4 = 0 := by rw [hgE, h_up_ne (by decide), h_up_ne (by decide), h_up_ne (by decide), h_up_eq]
  have g3 : gE 110 3 = 0 := by rw [hgE, h_up_ne (by decide), h_up_ne (by decide), h_up_ne (by decide), h_up_ne (by decide), h_up_eq]
  have c4 : (1 : Int) ≤ (gE 111 4).toInt := by
    rw [gc 111 (by decide), f1 111 (by omega)]
    rcases m4 with m | ⟨-, m | m⟩ <;> omega
  have hq1 : q_tk K W M gE FL1 := by
    refine q_fr (FI := FI0) (FL := FL0) ⟨by omega, fun i hi => m3 i (Nat.zero_le _) hi, m4⟩ ⟨by rw [gc 112 (by decide), f1 112 (by omega)], by rw [gc 111 (by decide), f1 111 (by omega)], l1 113 (by omega)⟩
  have et : (gE 110 7 + (1 : Int32)).toInt.toNat = 0 := by rw [g7]; decide
  rcases ht with ⟨-, ht⟩ | ⟨hn5, -⟩
  · rcases ht with ⟨-, -, -, -, e⟩ | ⟨hlt, -⟩
    · rw [et] at e
      cases e
      have e112 : ∀ c k, c ≠ 110 → h_up (h_up gE 110 7 (gE 110 7 + (1 : Int32))) 110 8 (gE 112 0) c k = gE c k := fun c k hc => by rw [h_up_nc hc, h_up_nc hc]
      have s1 : SH1 n = (104, 12) := es
      refine ⟨M, _, _, _, _, _, rfl, by omega, by omega, ⟨by omega, fun q hq => (w.1 q (by omega)).trans (hQ.2 q hq)⟩, ?_, ?_, ?_, ?_, ?_, ?_, ?_, ?_⟩
      · exact q_fr hq1 ⟨by funext k; exact e112 112 k (by decide), e112 111 4 (by decide), h_up_nc (by decide)⟩
      · refine ⟨by rw [h_up_nc (by decide), w.2.2.2 111 (by omega), h_up_eq], hN, fun i hi => ?_, fun i hi h1 => ?_⟩
        · rw [e112 19 i (by decide), gc 19 (by decide), f1 19 (by omega)]
          exact (hy.2.2.2.2.2.2.2.2 i hi).1
        · obtain ⟨p, p1, p2, p3, p4, p5⟩ := m5 i (Nat.zero_le _) hi
          obtain ⟨m, y1, y2, y3, y4, y5, y6⟩ := t_tk_nm p2 (by rw [← p4]; exact h1)
          refine ⟨p, m, ?_, ?_, y2, y3, y4, y5, by rw [p5]; exact y6⟩
          · rw [e112 114 i (by decide), gc 114 (by decide), f1 114 (by omega)]; exact p1
          · rw [e112 115 i (by decide), gc 115 (by decide), f1 115 (by omega), p3, y1]
      · refine ⟨?_, ?_, Nat.zero_le _, ?_, ?_, ?_⟩
        · rw [h_up_x (by decide), h_up_x (by decide), g5]; decide
        · rw [h_up_x (by decide), h_up_eq, g7]; decide
        · rw [h_up_eq, e112 112 0 (by decide)]
        · rw [h_up_eq, h_up_nc (by decide)]
        · rw [h_up_x (by decide), h_up_x (by decide), g4]; decide
      · refine ⟨h_up_eq, h176, by omega, by rw [s1], ?_, Nat.zero_le _, fun _ => 0, fun _ => 0, fun i v hv => by simp at hv⟩
        rw [h_up_x (by decide), h_up_x (by decide), g3]; decide
      · intro c k hc hx
        rw [e112 c k (by omega), gc c (by omega), f1 c hc]
        exact fr.1 c k hx
      · intro c k hc hx
        rw [h_up_nc (by omega), l1 c hc]
        exact fr.2 c k hx
      · intro c k hc hx
        rw [h_up_nc (by omega), w.2.2.2 c (by omega), h_up_nc (by omega)]
      · exact fun c hc => w.1 c (by omega)
    · exfalso
      rw [g7] at hlt
      have : ((-1 : Int32) + (1 : Int32)).toInt = 0 := by decide
      omega
  · exfalso
    rw [g5] at hn5
    exact hn5 (by decide)
