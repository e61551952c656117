/-! readAll, to its end. -/
/-- what the class keeps of the reference's tokens: the same up to the first that is none -/
def y_ok (X : Nat → Int) (N : Nat) (F : Nat → Nat → Int32) (L : Nat → Nat → Int64) : List (Int × Int × Nat) → Nat → Prop
  | [], _ => False
  | x :: l, j => (F 114 j).toInt = x.2.2 ∧ ((x.1 = 0 ∧ (F 112 j).toInt = 2 ∧ (F 111 4).toInt = ((j + 1 : Nat) : Int)) ∨ (x.1 ≠ 0 ∧ x.1 ≠ 6 ∧ (F 112 j).toInt = t_ck x.1 x.2.1 ∧ (F 115 j).toInt = ((t_tk X N x.2.2).2.2 : Int) ∧ (x.1 = 3 ∨ x.1 = 4 → (L 113 j).toInt = x.2.1) ∧ y_ok X N F L l (j + 1)) ∨ (x.1 = 6 ∧ (((F 112 j).toInt = 3 ∧ (F 111 4).toInt = ((j + 1 : Nat) : Int)) ∨ ((F 112 j).toInt = 4 ∧ ((j + 2 : Nat) : Int) ≤ (F 111 4).toInt ∧ (F 112 (j + 1)).toInt ≠ 61))))
theorem t_sk_id {X : Nat → Int} {N f i : Nat} (h : ¬ t_bl (t_sg X N i) = true) : t_sk X N (f + 1) i = i := by
  rw [t_sk, if_neg (fun h2 => h h2.2)]
theorem t_al_bl {c : Int} (h : t_al c = true) : ¬ t_bl c = true := by
  have h2 : (97 ≤ c ∧ c ≤ 122) ∨ (48 ≤ c ∧ c ≤ 57) := by simpa [t_al, t_sm, t_dg] using h
  unfold t_bl
  rw [decide_eq_true_eq]
  omega
theorem t_tk_al {X : Nat → Int} {N i : Nat} (h : t_al (t_sg X N i) = true) : (t_tk X N i).1 = 1 ∨ (t_tk X N i).1 = 2 ∨ (t_tk X N i).1 = 3 ∨ (t_tk X N i).1 = 6 := by
  unfold t_tk
  split
  · split
    · simp
    · split <;> simp
  · rename_i hs
    have hd : t_dg (t_sg X N i) = true := by
      unfold t_al at h
      rw [Bool.or_eq_true] at h
      exact h.resolve_left hs
    rw [if_pos hd]
    dsimp only
    split
    · simp
    · split <;> simp
/-- the kind of a token that is one: neither the end nor none -/
theorem t_ck_n {X : Nat → Int} {N i : Nat} (hi : i < N) (hN : N ≤ 1000) (h6 : (t_tk X N i).1 ≠ 6) : t_ck (t_tk X N i).1 (t_tk X N i).2.1 ≠ 2 ∧ t_ck (t_tk X N i).1 (t_tk X N i).2.1 ≠ 3 := by
  have tk := t_tk_ok (X := X) hi hN
  have hw := t_tk_kw (X := X) hi hN
  unfold t_ck
  rw [if_neg tk.1]
  rcases hw with hw | hw | hw | hw | hw | hw
  · rw [if_pos hw.1]; omega
  · rw [if_neg (by omega), if_pos hw.1]; omega
  · rw [if_neg (by omega), if_neg (by omega), if_pos hw]; omega
  · rw [if_neg (by omega), if_neg (by omega), if_neg (by omega), if_pos hw]; omega
  · rw [if_neg (by omega), if_neg (by omega), if_neg (by omega), if_neg (by omega), if_pos hw.1]
    split <;> omega
  · exact absurd hw h6
theorem y_is_al {X : Nat → Int} {N p e : Nat} {kd num : Int} (hN : N ≤ 1000) (hp : p < N) (ha : t_al (t_sg X N p) = true) (h : y_is X N p kd e num) : kd ≠ 61 := by
  unfold y_is at h
  rw [if_pos hp] at h
  rcases h with ⟨h2, h3, -, -⟩ | ⟨-, h3⟩
  · rw [h3]
    have hw := t_tk_kw (X := X) hp hN
    have tk := t_tk_ok (X := X) hp hN
    unfold t_ck
    rw [if_neg tk.1]
    rcases t_tk_al ha with h4 | h4 | h4 | h4
    · rw [if_pos h4]; omega
    · rw [if_neg (by omega), if_pos h4]; omega
    · rw [if_neg (by omega), if_neg (by omega), if_pos h4]; omega
    · exact absurd h4 h2
  · omega
section YC
variable {X : Nat → Int} {N tp : Nat} {n sl : Nat} {SH : Nat → Nat × Nat} {FR : Nat → Nat → Option Nat} {a1 : Option Nat} {a2 : Int32}
theorem y_stop {g : Nat} {FI : Nat → Nat → Int32} {FL : Nat → Nat → Int64} {v : Unit} {s : hS} (h : GX7_readAll_30 a1 a2 g n sl SH FI FL FR v s) (hk : (FI 111 9).toInt = 2 ∨ (FI 111 9).toInt = 3) : s = (n, sl, SH, FI, FL, FR) := by
  have c2 : ((2 : Int32)).toInt = 2 := by decide
  have c3 : ((3 : Int32)).toInt = 3 := by decide
  cases g with
  | zero => exact h.elim
  | succ g =>
    rcases h with ⟨h1, h⟩ | ⟨h1, h⟩
    · rcases h with ⟨h2, h⟩ | ⟨h2, h⟩
      · exact h.2
      · rw [c2] at h2
        rcases h with ⟨h3, h⟩ | ⟨h3, h⟩
        · exact h.2
        · rw [c3] at h3
          exact absurd hk (by omega)
    · exact h.2
/-- what stays of the tokens before j -/
def y_kp (FI F2 : Nat → Nat → Int32) (FL L2 : Nat → Nat → Int64) (j : Nat) : Prop := ∀ i, i < j → F2 112 i = FI 112 i ∧ F2 114 i = FI 114 i ∧ F2 115 i = FI 115 i ∧ L2 113 i = FL 113 i
theorem y_kp_t {FI F2 F3 : Nat → Nat → Int32} {FL L2 L3 : Nat → Nat → Int64} {j k : Nat} (h : y_kp FI F2 FL L2 j) (h2 : y_kp F2 F3 L2 L3 k) (hjk : j ≤ k) : y_kp FI F3 FL L3 j := by
  intro i hi
  have a := h i hi
  have b := h2 i (by omega)
  exact ⟨b.1.trans a.1, b.2.1.trans a.2.1, b.2.2.1.trans a.2.2.1, b.2.2.2.trans a.2.2.2⟩
theorem y_rest (hQ : h_S n SH) : ∀ (g : Nat) (FI : Nat → Nat → Int32) (FL : Nat → Nat → Int64) (v : Unit) (s : hS) (b j : Nat), GX7_readAll_30 a1 a2 g n sl SH FI FL FR v s → y_vw SH FI FR tp X N → (FI 111 8).toInt = b → (b ≤ N ∨ (FI 111 9).toInt = 3) → (FI 111 4).toInt = j → j ≤ 1001 → ∃ F2 L2, s = (n, sl, SH, F2, L2, FR) ∧ y_vw SH F2 FR tp X N ∧ y_kp FI F2 FL L2 j ∧ (j : Int) ≤ (F2 111 4).toInt ∧ (F2 111 4).toInt ≤ 1001 := by
  intro g
  induction g with
  | zero => intro FI FL v s b j h; exact h.elim
  | succ g ih =>
    intro FI FL v s b j h hy h8 hb h4 hj
    have hN := hy.2.1
    have same : s = (n, sl, SH, FI, FL, FR) → ∃ F2 L2, s = (n, sl, SH, F2, L2, FR) ∧ y_vw SH F2 FR tp X N ∧ y_kp FI F2 FL L2 j ∧ (j : Int) ≤ (F2 111 4).toInt ∧ (F2 111 4).toInt ≤ 1001 := fun e => ⟨FI, FL, e, hy, fun _ _ => ⟨rfl, rfl, rfl, rfl⟩, by omega, by omega⟩
    by_cases h3 : (FI 111 9).toInt = 3
    · exact same (y_stop h (Or.inr h3))
    · have hb2 : b ≤ N := hb.resolve_right h3
      have sk := t_tl_sk (X := X) hN 1001 b hb2 (by omega)
      rcases y_turn hQ h hy h8 hb2 h4 hj with ⟨-, q⟩ | ⟨-, -, q3, F2, L2, e, w1, w2, w3, w4, w5, -, -, -, -, w6⟩
      · exact same q
      · have ie := y_is_e hN sk.2.1 w5
        obtain ⟨F3, L3, z1, z2, z3, z4, z5⟩ := ih F2 L2 v s e (j + 1) w1 w2 w4 (by rcases ie with i | i | i; exact Or.inl (by omega); exact Or.inr i; exact Or.inl i.2.1) w3 (by omega)
        exact ⟨F3, L3, z1, z2, y_kp_t w6 z3 (by omega), by omega, z5⟩
theorem y_all (hQ : h_S n SH) : ∀ (g : Nat) (FI : Nat → Nat → Int32) (FL : Nat → Nat → Int64) (v : Unit) (s : hS) (b j : Nat), GX7_readAll_30 a1 a2 g n sl SH FI FL FR v s → y_vw SH FI FR tp X N → (FI 111 8).toInt = b → b ≤ N → (FI 111 4).toInt = j → j + (N - b) ≤ 1000 → (FI 111 9).toInt ≠ 2 → (FI 111 9).toInt ≠ 3 → ∃ F2 L2, s = (n, sl, SH, F2, L2, FR) ∧ y_vw SH F2 FR tp X N ∧ y_kp FI F2 FL L2 j ∧ y_ok X N F2 L2 (t_tl X N 1001 b) j := by
  intro g
  induction g with
  | zero => intro FI FL v s b j h; exact h.elim
  | succ g ih =>
    intro FI FL v s b j h hy h8 hb h4 hj hk2 hk3
    have hN := hy.2.1
    have sk := t_tl_sk (X := X) hN 1001 b hb (by omega)
    rcases y_turn hQ h hy h8 hb h4 (by omega) with ⟨q, -⟩ | ⟨-, -, -, F2, L2, e, w1, w2, w3, w4, w5, k1, k2, k3, k4, w6⟩
    · exact absurd q (by omega)
    · rw [sk.2.2]
      by_cases hp : t_sk X N 1001 b < N
      · rw [if_pos hp]
        have te := t_tk_e (X := X) hp hN
        have w5' := w5
        unfold y_is at w5'
        rw [if_pos hp] at w5'
        rcases w5' with ⟨h6, hkd, he, hnum⟩ | ⟨h6, h3 | ⟨hn4, he, hl, hal⟩⟩
        · subst he
          have cn := t_ck_n (X := X) hp hN h6
          obtain ⟨F3, L3, z1, z2, z3, z4⟩ := ih F2 L2 v s _ (j + 1) w1 w2 w4 te.2 w3 (by omega) (by rw [hkd]; exact cn.1) (by rw [hkd]; exact cn.2)
          have kj := z3 j (by omega)
          refine ⟨F3, L3, z1, z2, y_kp_t w6 z3 (by omega), ?_⟩
          rw [y_ok]
          refine ⟨by rw [kj.2.1]; exact k2, Or.inr (Or.inl ⟨(t_tk_ok (X := X) hp hN).1, h6, by rw [kj.1, k1]; exact hkd, by rw [kj.2.2.1, k3]; exact w4, fun h => by rw [kj.2.2.2, k4]; exact hnum h, z4⟩)⟩
        · have hs := y_stop w1 (Or.inr h3)
          refine ⟨F2, L2, hs, w2, w6, ?_⟩
          rw [y_ok]
          exact ⟨k2, Or.inr (Or.inr ⟨h6, Or.inl ⟨by rw [k1]; exact h3, w3⟩⟩)⟩
        · subst he
          cases g with
          | zero => exact w1.elim
          | succ g =>
            have hsk : t_sk X N 1001 (t_sk X N 1001 b + 8) = t_sk X N 1001 b + 8 := t_sk_id (t_al_bl hal)
            rcases y_turn hQ w1 w2 w4 (by omega) w3 (by omega) with ⟨q, -⟩ | ⟨-, -, -, F3, L3, e3, u1, u2, u3, u4, u5, m1, m2, m3, m4, u6⟩
            · exact absurd q (by omega)
            · rw [hsk] at u5
              have ie := y_is_e hN (by omega) u5
              have ia := y_is_al hN hl hal u5
              obtain ⟨F4, L4, z1, z2, z3, z4, z5⟩ := y_rest hQ g F3 L3 v s e3 (j + 1 + 1) u1 u2 u4 (by rcases ie with i | i | i; exact Or.inl (by omega); exact Or.inr i; exact Or.inl i.2.1) u3 (by omega)
              have kj := y_kp_t u6 z3 (by omega) j (by omega)
              have kj2 := z3 (j + 1) (by omega)
              refine ⟨F4, L4, z1, z2, y_kp_t w6 (y_kp_t u6 z3 (by omega)) (by omega), ?_⟩
              rw [y_ok]
              exact ⟨by rw [kj.2.1]; exact k2, Or.inr (Or.inr ⟨h6, Or.inr ⟨by rw [kj.1, k1]; exact hn4, by omega, by rw [kj2.1, m1]; exact ia⟩⟩)⟩
      · rw [if_neg hp]
        have w5' := w5
        unfold y_is at w5'
        rw [if_neg hp] at w5'
        have hs := y_stop w1 (Or.inl w5'.1)
        refine ⟨F2, L2, hs, w2, w6, ?_⟩
        rw [y_ok]
        exact ⟨by rw [k2]; dsimp only; omega, Or.inl ⟨rfl, by rw [k1]; exact w5'.1, w3⟩⟩
/-- readAll: the class's tokens are the reference's up to the first that is none -/
theorem y_readAll {FI : Nat → Nat → Int32} {FL : Nat → Nat → Int64} {v : Unit} {s : hS} (hQ : h_S n SH) (h : RX7_readAll (some tp) a2 n sl SH FI FL FR v s) (ha : a2.toInt = N) (hN : N ≤ 1000) (hz : (SH tp).2 = 1000) (ht : tp ≠ 111 ∧ tp ≠ 112 ∧ tp ≠ 114 ∧ tp ≠ 115) (hX : ∀ i, i < N → (FI tp i).toInt = X i ∧ 0 ≤ X i ∧ X i ≤ 255) : ∃ F2 L2, s = (n, sl, SH, F2, L2, h_up FR 111 5 (some tp)) ∧ y_vw SH F2 (h_up FR 111 5 (some tp)) tp X N ∧ y_ok X N F2 L2 (t_tl X N 1001 0) 0 := by
  obtain ⟨c2, e2, g, h⟩ := h
  cases e2
  have hm : fJ9_min_7cf53 a2 (Int32.ofNat (SH tp).2) SH FI FL (h_up FR 111 5 (some tp)) = a2 := by
    unfold fJ9_min_7cf53
    rw [hz, if_neg]
    rw [ha, show (Int32.ofNat 1000).toInt = 1000 by decide]
    omega
  rw [hm] at h
  have hy : y_vw SH (h_up (h_up (h_up (h_up FI 111 6 a2) 111 8 ((0 : Int32))) 111 4 ((0 : Int32))) 111 9 ((1 : Int32))) (h_up FR 111 5 (some tp)) tp X N := by
    refine ⟨?_, hN, h_up_eq, hz, ht.1, ht.2.1, ht.2.2.1, ht.2.2.2, ?_⟩
    · rw [h_up_x (by decide), h_up_x (by decide), h_up_x (by decide), h_up_eq]
      exact ha
    · intro i hi
      rw [h_up_nc ht.1, h_up_nc ht.1, h_up_nc ht.1, h_up_nc ht.1]
      exact hX i hi
  obtain ⟨F2, L2, q1, q2, -, q4⟩ := y_all hQ g _ FL v s 0 0 h hy (by rw [h_up_x (by decide), h_up_x (by decide), h_up_eq]; rfl) (by omega) (by rw [h_up_x (by decide), h_up_eq]; rfl) (by omega) (by rw [h_up_eq]; decide) (by rw [h_up_eq]; decide)
  exact ⟨F2, L2, q1, q2, q4⟩
end YC
