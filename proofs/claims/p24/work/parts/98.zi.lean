/-! THE CLASS'S TOKENS beside the reference's: what its kinds say. -/
/-- a token that is one (or the end) -/
def k_rg (k w : Int) : Prop := k = 0 ∨ k = 1 ∨ (k = 2 ∧ 0 ≤ w ∧ w ≤ 9) ∨ k = 3 ∨ k = 4 ∨ (k = 5 ∧ ((37 ≤ w ∧ w ≤ 126) ∨ (256 ≤ w ∧ w ≤ 263)))
def n_lv (a : Int) : Int := if a = 15 ∨ a = 16 ∨ a = 42 then 6 else if a = 18 ∨ a = 19 ∨ a = 20 ∨ a = 21 ∨ a = 60 ∨ a = 62 then 3 else if a = 22 ∨ a = 23 ∨ a = 24 then 4 else if a = 38 then 2 else if a = 43 ∨ a = 45 then 5 else if a = 94 then 1 else if a = 124 then 0 else -1
/-- the kind's number, case by case -/
theorem ck_e {k w : Int} (h : k_rg k w) : (k = 0 ∧ t_ck k w = 2) ∨ (k = 1 ∧ t_ck k w = 4) ∨ (k = 2 ∧ t_ck k w = w + 7 ∧ 0 ≤ w ∧ w ≤ 9) ∨ (k = 3 ∧ t_ck k w = 5) ∨ (k = 4 ∧ t_ck k w = 6) ∨ (k = 5 ∧ t_ck k w = w ∧ 37 ≤ w ∧ w ≤ 126) ∨ (k = 5 ∧ t_ck k w = w - 239 ∧ 256 ≤ w ∧ w ≤ 263) := by
  unfold t_ck
  rcases h with h | h | ⟨h, h1, h2⟩ | h | h | ⟨h, h1 | h1⟩
  · subst h; exact Or.inl ⟨rfl, rfl⟩
  · subst h; exact Or.inr (Or.inl ⟨rfl, rfl⟩)
  · subst h; exact Or.inr (Or.inr (Or.inl ⟨rfl, rfl, h1, h2⟩))
  · subst h; exact Or.inr (Or.inr (Or.inr (Or.inl ⟨rfl, rfl⟩)))
  · subst h; exact Or.inr (Or.inr (Or.inr (Or.inr (Or.inl ⟨rfl, rfl⟩))))
  · subst h
    refine Or.inr (Or.inr (Or.inr (Or.inr (Or.inr (Or.inl ⟨rfl, ?_, h1⟩)))))
    rw [if_neg (by decide), if_neg (by decide), if_neg (by decide), if_neg (by decide), if_neg (by decide), if_pos rfl, if_neg (by omega)]
  · subst h
    refine Or.inr (Or.inr (Or.inr (Or.inr (Or.inr (Or.inr ⟨rfl, ?_, h1⟩)))))
    rw [if_neg (by decide), if_neg (by decide), if_neg (by decide), if_neg (by decide), if_neg (by decide), if_pos rfl, if_pos (by omega)]
theorem ck_5 : ∀ x : Fin 264, ((37 ≤ x.val ∧ x.val ≤ 126) ∨ 256 ≤ x.val) → n_lv (t_ck 5 (x.val : Int)) + 1 = au_bn 5 (x.val : Int) ∧ (au_bn 5 (x.val : Int) ≠ 0 → n_op (t_ck 5 (x.val : Int)) = lc_op 5 (x.val : Int)) := by decide +kernel
theorem ck_2 : ∀ x : Fin 10, n_lv (t_ck 2 (x.val : Int)) + 1 = au_bn 2 (x.val : Int) ∧ (au_bn 2 (x.val : Int) ≠ 0 → n_op (t_ck 2 (x.val : Int)) = lc_op 2 (x.val : Int)) := by decide +kernel
theorem au_bn_o {k w : Int} (h5 : k ≠ 5) (h2 : k ≠ 2) : au_bn k w = 0 := by
  unfold au_bn
  rw [if_neg (by omega), if_neg (by omega), if_neg (by omega), if_neg (by omega), if_neg (by omega), if_neg (by omega), if_neg (by omega)]
/-- how a sign binds, and its operation -/
theorem ck_lv {k w : Int} (h : k_rg k w) : n_lv (t_ck k w) + 1 = au_bn k w ∧ (au_bn k w ≠ 0 → n_op (t_ck k w) = lc_op k w) := by
  have h0 := h
  rcases h with h | h | ⟨h, h1, h2⟩ | h | h | ⟨h, h1⟩
  · subst h
    rw [au_bn_o (by decide) (by decide)]
    exact ⟨rfl, fun h => absurd rfl h⟩
  · subst h
    rw [au_bn_o (by decide) (by decide)]
    exact ⟨rfl, fun h => absurd rfl h⟩
  · subst h
    have q := ck_2 ⟨w.toNat, by omega⟩
    dsimp only at q
    rw [show ((w.toNat : Nat) : Int) = w by omega] at q
    exact q
  · subst h
    rw [au_bn_o (by decide) (by decide)]
    exact ⟨rfl, fun h => absurd rfl h⟩
  · subst h
    rw [au_bn_o (by decide) (by decide)]
    exact ⟨rfl, fun h => absurd rfl h⟩
  · subst h
    have q := ck_5 ⟨w.toNat, by omega⟩ (by dsimp only; omega)
    dsimp only at q
    rw [show ((w.toNat : Nat) : Int) = w by omega] at q
    exact q
/-- what stands ahead of an operand -/
theorem ck_un {k w : Int} (h : k_rg k w) : (lc_uy k w = true ↔ (t_ck k w = 6 ∨ t_ck k w = 14 ∨ t_ck k w = 45 ∨ t_ck k w = 126)) ∧ (lc_uy k w = true → ∀ v, (k = 4 → v = w) → n_un (t_ck k w) v = lc_un k w) := by
  have e := ck_e h
  have hu : lc_uy k w = true ↔ (k = 4 ∨ (k = 5 ∧ (w = 45 ∨ w = 126)) ∨ (k = 2 ∧ w = 7)) := by
    unfold lc_uy
    rw [decide_eq_true_eq]
  rw [hu]
  refine ⟨by omega, fun hh v hv => ?_⟩
  rcases hh with h1 | ⟨h1, h2 | h2⟩ | ⟨h1, h2⟩
  · have e6 : t_ck k w = 6 := by omega
    rw [e6, hv h1]
    subst h1
    rfl
  · subst h1 h2; rfl
  · subst h1 h2; rfl
  · subst h1 h2; rfl
/-- THE TOKENS up to M, where they end or one is none -/
def q_tk (K W : Nat → Int) (M : Nat) (FI : Nat → Nat → Int32) (FL : Nat → Nat → Int64) : Prop := M ≤ 1000 ∧ (∀ i, i < M → K i ≠ 0 ∧ k_rg (K i) (W i) ∧ (FI 112 i).toInt = t_ck (K i) (W i) ∧ (K i = 3 → (FL 113 i).toInt = W i ∧ 0 ≤ W i ∧ W i ≤ 999999999999999999) ∧ (K i = 4 → (FL 113 i).toInt = W i ∧ 1 ≤ W i ∧ W i ≤ 8)) ∧ ((K M = 0 ∧ (FI 112 M).toInt = 2 ∧ (FI 111 4).toInt = ((M + 1 : Nat) : Int)) ∨ (K M = 6 ∧ (((FI 112 M).toInt = 3 ∧ (FI 111 4).toInt = ((M + 1 : Nat) : Int)) ∨ ((FI 112 M).toInt = 4 ∧ ((M + 2 : Nat) : Int) ≤ (FI 111 4).toInt ∧ (FI 112 (M + 1)).toInt ≠ 61))))
section QT
variable {X : Nat → Int} {N : Nat} {K W : Nat → Int}
/-- out of what the reader keeps -/
theorem y_ok_q {F : Nat → Nat → Int32} {L : Nat → Nat → Int64} (hN : N ≤ 1000) : ∀ (l : List (Int × Int × Nat)) (j : Nat), y_ok X N F L l j → (∀ i x, l[i]? = some x → K (j + i) = x.1 ∧ W (j + i) = x.2.1 ∧ (x.1 ≠ 0 → x.2.2 < N ∧ x.1 = (t_tk X N x.2.2).1 ∧ x.2.1 = (t_tk X N x.2.2).2.1)) → j + l.length ≤ 1001 → ∃ M, j ≤ M ∧ M < j + l.length ∧ (∀ i, j ≤ i → i < M → K i ≠ 0 ∧ k_rg (K i) (W i) ∧ (F 112 i).toInt = t_ck (K i) (W i) ∧ (K i = 3 → (L 113 i).toInt = W i ∧ 0 ≤ W i ∧ W i ≤ 999999999999999999) ∧ (K i = 4 → (L 113 i).toInt = W i ∧ 1 ≤ W i ∧ W i ≤ 8)) ∧ ((K M = 0 ∧ (F 112 M).toInt = 2 ∧ (F 111 4).toInt = ((M + 1 : Nat) : Int)) ∨ (K M = 6 ∧ (((F 112 M).toInt = 3 ∧ (F 111 4).toInt = ((M + 1 : Nat) : Int)) ∨ ((F 112 M).toInt = 4 ∧ ((M + 2 : Nat) : Int) ≤ (F 111 4).toInt ∧ (F 112 (M + 1)).toInt ≠ 61)))) := by
  intro l
  induction l with
  | nil => intro j h; exact h.elim
  | cons x l ih =>
    intro j h hK hl
    rw [List.length_cons] at hl ⊢
    have k0 := hK 0 x rfl
    rw [Nat.add_zero] at k0
    rw [y_ok] at h
    obtain ⟨-, h | h | h⟩ := h
    · exact ⟨j, Nat.le_refl _, by omega, fun i h1 h2 => by omega, Or.inl ⟨k0.1.trans h.1, h.2⟩⟩
    · obtain ⟨h0, h6, hk, -, hw, h⟩ := h
      obtain ⟨M, m1, m2, m3, m4⟩ := ih (j + 1) h (fun i y hy => by
        have := hK (i + 1) y hy
        rw [show j + (i + 1) = j + 1 + i by omega] at this
        exact this) (by omega)
      refine ⟨M, by omega, by omega, fun i h1 h2 => ?_, m4⟩
      by_cases e : i = j
      · subst e
        have p := k0.2.2 h0
        have kw := t_tk_kw (X := X) p.1 hN
        have tk := t_tk_ok (X := X) p.1 hN
        rw [← p.2.1, ← p.2.2] at kw tk
        rw [k0.1, k0.2.1]
        refine ⟨h0, ?_, hk, fun h3 => ⟨hw (Or.inl h3), (tk.2.1 h3).1⟩, fun h4 => ⟨hw (Or.inr h4), (tk.2.2.1 h4).1⟩⟩
        rcases kw with kw | kw | kw | kw | kw | kw
        · exact Or.inr (Or.inl kw.1)
        · exact Or.inr (Or.inr (Or.inl kw))
        · exact Or.inr (Or.inr (Or.inr (Or.inl kw)))
        · exact Or.inr (Or.inr (Or.inr (Or.inr (Or.inl kw))))
        · exact Or.inr (Or.inr (Or.inr (Or.inr (Or.inr kw))))
        · exact absurd kw h6
      · exact m3 i (by omega) h2
    · exact ⟨j, Nat.le_refl _, by omega, fun i h1 h2 => by omega, Or.inr ⟨k0.1.trans h.1, h.2⟩⟩
end QT
