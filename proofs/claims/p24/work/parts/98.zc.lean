/-! readAll: the class's tokens beside the reference's. -/
theorem t_tl_fuel {X : Nat → Int} {N : Nat} (hN : N ≤ 1000) : ∀ (f f2 i : Nat), i ≤ N → N - i < f → N - i < f2 → t_tl X N f i = t_tl X N f2 i := by
  intro f
  induction f with
  | zero => intro f2 i _ h; omega
  | succ f ih =>
    intro f2 i hi h1 h2
    cases f2 with
    | zero => omega
    | succ f2 =>
      rw [t_tl, t_tl]
      by_cases h3 : i < N
      · rw [if_pos h3, if_pos h3]
        have te := t_tk_e (X := X) h3 hN
        rw [ih f2 (i + 1) (by omega) (by omega) (by omega), ih f2 (t_tk X N i).2.2 te.2 (by omega) (by omega)]
      · rw [if_neg h3, if_neg h3]
theorem t_tl_sk {X : Nat → Int} {N : Nat} (hN : N ≤ 1000) : ∀ (f b : Nat), b ≤ N → N - b < f → b ≤ t_sk X N f b ∧ t_sk X N f b ≤ N ∧ t_tl X N f b = (if t_sk X N f b < N then ((t_tk X N (t_sk X N f b)).1, (t_tk X N (t_sk X N f b)).2.1, t_sk X N f b) :: t_tl X N 1001 (t_tk X N (t_sk X N f b)).2.2 else [(0, 0, N)]) := by
  intro f
  induction f with
  | zero => intro b _ h; omega
  | succ f ih =>
    intro b hb hf
    rw [t_sk, t_tl]
    by_cases h1 : b < N
    · by_cases h2 : t_bl (t_sg X N b) = true
      · rw [if_pos ⟨h1, h2⟩, if_pos h1, if_pos h2]
        have q := ih (b + 1) h1 (by omega)
        exact ⟨by omega, q.2⟩
      · have te := t_tk_e (X := X) h1 hN
        rw [if_neg (fun h => h2 h.2), if_pos h1, if_neg h2, if_pos h1, t_tl_fuel hN f 1001 _ te.2 (by omega) (by omega)]
        exact ⟨Nat.le_refl _, hb, rfl⟩
    · rw [if_neg (fun h => h1 h.1), if_neg h1, if_neg h1]
      exact ⟨Nat.le_refl _, hb, rfl⟩
/-- the kinds and worths that a token may have -/
theorem t_tk_kw {X : Nat → Int} {N i : Nat} (hi : i < N) (hN : N ≤ 1000) : ((t_tk X N i).1 = 1 ∧ True) ∨ ((t_tk X N i).1 = 2 ∧ 0 ≤ (t_tk X N i).2.1 ∧ (t_tk X N i).2.1 ≤ 9) ∨ (t_tk X N i).1 = 3 ∨ (t_tk X N i).1 = 4 ∨ ((t_tk X N i).1 = 5 ∧ (37 ≤ (t_tk X N i).2.1 ∧ (t_tk X N i).2.1 ≤ 126 ∨ 256 ≤ (t_tk X N i).2.1 ∧ (t_tk X N i).2.1 ≤ 263)) ∨ (t_tk X N i).1 = 6 := by
  unfold t_tk
  split
  · split
    · simp
    · split
      · simp
      · rename_i hw
        have := t_wd_rg (t_wv X N i (t_rn t_al X N 1001 i - i))
        rcases this with e | ⟨k, e⟩
        · exact absurd e hw
        · refine Or.inr (Or.inl ⟨rfl, ?_⟩)
          dsimp only
          have := k.isLt
          omega
  · split
    · dsimp only
      split
      · simp
      · split <;> simp
    · split
      · split <;> simp
      · dsimp only
        generalize t_sg X N i = C
        unfold t_sn
        split
        · rename_i h
          have := t_s2_rg C (t_sg X N (i + 1)) (t_sg X N (i + 2))
          refine Or.inr (Or.inr (Or.inr (Or.inr (Or.inl ⟨rfl, Or.inr ?_⟩))))
          dsimp only
          omega
        · split
          · rename_i h1 h2
            have h3 : C = 61 ∨ C = 59 ∨ C = 44 ∨ C = 58 ∨ C = 123 ∨ C = 125 ∨ C = 91 ∨ C = 93 ∨ C = 40 ∨ C = 41 ∨ C = 47 ∨ C = 37 ∨ C = 63 ∨ C = 124 ∨ C = 94 ∨ C = 38 ∨ C = 60 ∨ C = 62 ∨ C = 43 ∨ C = 45 ∨ C = 42 ∨ C = 126 := by simpa [t_s1] using h2
            refine Or.inr (Or.inr (Or.inr (Or.inr (Or.inl ⟨rfl, Or.inl ?_⟩))))
            dsimp only
            omega
          · simp
section YB
variable {X : Nat → Int} {N tp : Nat} {n sl : Nat} {SH : Nat → Nat × Nat} {FR : Nat → Nat → Option Nat} {a1 : Option Nat} {a2 : Int32}
/-- the token in hand is kept -/
theorem y_keep {F3 : Nat → Nat → Int32} {L3 : Nat → Nat → Int64} {j : Nat} (h4 : (F3 111 4).toInt = j) : ∀ i, i < j → (h_up (h_up (h_up (h_up F3 112 j (F3 111 9)) 114 j (F3 111 7)) 115 j (F3 111 8)) 111 4 ((F3 111 4) + ((1 : Int32)))) 112 i = F3 112 i ∧ (h_up (h_up (h_up (h_up F3 112 j (F3 111 9)) 114 j (F3 111 7)) 115 j (F3 111 8)) 111 4 ((F3 111 4) + ((1 : Int32)))) 114 i = F3 114 i ∧ (h_up (h_up (h_up (h_up F3 112 j (F3 111 9)) 114 j (F3 111 7)) 115 j (F3 111 8)) 111 4 ((F3 111 4) + ((1 : Int32)))) 115 i = F3 115 i ∧ (h_up L3 113 j (L3 111 10)) 113 i = L3 113 i := by
  intro i hi
  refine ⟨?_, ?_, ?_, ?_⟩
  · rw [h_up_nc (by decide), h_up_nc (by decide), h_up_nc (by decide), h_up_ne (by omega)]
  · rw [h_up_nc (by decide), h_up_nc (by decide), h_up_ne (by omega), h_up_nc (by decide)]
  · rw [h_up_nc (by decide), h_up_ne (by omega), h_up_nc (by decide), h_up_nc (by decide)]
  · rw [h_up_ne (by omega)]
/-- one turn of the loop: a token is read and kept -/
theorem y_turn {g : Nat} {FI : Nat → Nat → Int32} {FL : Nat → Nat → Int64} {v : Unit} {s : hS} {b j : Nat} (hS : h_S n SH) (h : GX7_readAll_30 a1 a2 (g + 1) n sl SH FI FL FR v s) (hy : y_vw SH FI FR tp X N) (h8 : (FI 111 8).toInt = b) (hb : b ≤ N) (h4 : (FI 111 4).toInt = j) (hj : j ≤ 1001) : (((FI 111 9).toInt = 2 ∨ (FI 111 9).toInt = 3 ∨ 1001 ≤ j) ∧ s = (n, sl, SH, FI, FL, FR)) ∨ ((FI 111 9).toInt ≠ 2 ∧ (FI 111 9).toInt ≠ 3 ∧ j < 1001 ∧ ∃ F2 L2 e, GX7_readAll_30 a1 a2 g n sl SH F2 L2 FR v s ∧ y_vw SH F2 FR tp X N ∧ (F2 111 4).toInt = ((j + 1 : Nat) : Int) ∧ (F2 111 8).toInt = ((e : Nat) : Int) ∧ y_is X N (t_sk X N 1001 b) (F2 111 9).toInt e (L2 111 10).toInt ∧ F2 112 j = F2 111 9 ∧ (F2 114 j).toInt = t_sk X N 1001 b ∧ F2 115 j = F2 111 8 ∧ L2 113 j = L2 111 10 ∧ (∀ i, i < j → F2 112 i = FI 112 i ∧ F2 114 i = FI 114 i ∧ F2 115 i = FI 115 i ∧ L2 113 i = FL 113 i)) := by
  have hN := hy.2.1
  have c2 : ((2 : Int32)).toInt = 2 := by decide
  have c3 : ((3 : Int32)).toInt = 3 := by decide
  have hz : (Int32.ofNat (SH 112).2).toInt = 1001 := by rw [s112 hS]; decide
  rcases h with ⟨h1, h⟩ | ⟨h1, h⟩
  · rw [h4, hz] at h1
    rcases h with ⟨h2, h⟩ | ⟨h2, h⟩
    · rw [c2] at h2
      exact Or.inl ⟨Or.inl h2, h.2⟩
    · rw [c2] at h2
      rcases h with ⟨h3, h⟩ | ⟨h3, h⟩
      · rw [c3] at h3
        exact Or.inl ⟨Or.inr (Or.inl h3), h.2⟩
      · rw [c3] at h3
        obtain ⟨v3, n3, sl3, SH3, FI3, FL3, FR3, ⟨gt, hc⟩, -, -, -, -, h⟩ := h
        obtain ⟨F2, L2, e, w1, w2, w3, w4, w5⟩ := y_readToken_G gt FI v3 _ 1001 b hc hy h8 hb (by omega)
        cases w1
        have f4 : FI3 111 4 = FI 111 4 := w2.1 111 4 (by decide)
        have f4' : (FI3 111 4).toInt = j := by rw [f4]; exact h4
        have f4n : (FI3 111 4).toInt.toNat = j := by omega
        rw [f4n] at h
        refine Or.inr ⟨h2, h3, by omega, _, _, e, h, ?_, ?_, ?_, ?_, ?_, ?_, ?_, ?_, fun i hi => ?_⟩
        · have t1 := hy.2.2.2.2.1
          have t2 := hy.2.2.2.2.2.1
          have t3 := hy.2.2.2.2.2.2.1
          have t4 := hy.2.2.2.2.2.2.2.1
          refine ⟨?_, hN, hy.2.2.1, hy.2.2.2.1, t1, t2, t3, t4, ?_⟩
          · rw [h_up_x (by decide), h_up_nc (by decide), h_up_nc (by decide), h_up_nc (by decide), w2.1 111 6 (by decide)]
            exact hy.1
          · intro i hi
            rw [h_up_nc t1, h_up_nc t4, h_up_nc t3, h_up_nc t2, w2.1 tp i (fun h => t1 h.1)]
            exact hy.2.2.2.2.2.2.2.2 i hi
        · rw [h_up_eq, i_add f4' (by decide : ((1 : Int32)).toInt = 1) (by omega) (by omega)]; omega
        · rw [h_up_x (by decide), h_up_nc (by decide), h_up_nc (by decide), h_up_nc (by decide)]; exact w4
        · rw [h_up_x (by decide), h_up_nc (by decide), h_up_nc (by decide), h_up_nc (by decide), h_up_nc (by decide)]; exact w5
        · rw [h_up_nc (by decide), h_up_nc (by decide), h_up_nc (by decide), h_up_eq, h_up_x (by decide), h_up_nc (by decide), h_up_nc (by decide), h_up_nc (by decide)]
        · rw [h_up_nc (by decide), h_up_nc (by decide), h_up_eq]; exact w3
        · rw [h_up_nc (by decide), h_up_eq, h_up_x (by decide), h_up_nc (by decide), h_up_nc (by decide), h_up_nc (by decide)]
        · rw [h_up_eq, h_up_nc (by decide)]
        · have k := y_keep (F3 := FI3) (L3 := FL3) (j := j) f4' i hi
          refine ⟨?_, ?_, ?_, ?_⟩
          · rw [k.1]; exact w2.1 112 i (by omega)
          · rw [k.2.1]; exact w2.1 114 i (by omega)
          · rw [k.2.2.1]; exact w2.1 115 i (by omega)
          · rw [k.2.2.2]; exact w2.2 113 i (by omega)
  · rw [h4, hz] at h1
    obtain ⟨-, rfl⟩ := h
    exact Or.inl ⟨Or.inr (Or.inr (by omega)), rfl⟩
theorem y_is_e {p e : Nat} {kd num : Int} (hN : N ≤ 1000) (hp : p ≤ N) (h : y_is X N p kd e num) : (kd = 2 ∧ e = p ∧ N ≤ p) ∨ kd = 3 ∨ (p < e ∧ e ≤ N ∧ p < N ∧ kd ≠ 2) := by
  unfold y_is at h
  by_cases h1 : p < N
  · rw [if_pos h1] at h
    have te := t_tk_e (X := X) h1 hN
    have tk := t_tk_ok (X := X) h1 hN
    rcases h with ⟨h2, h3, h4, -⟩ | ⟨h2, h3⟩
    · refine Or.inr (Or.inr ⟨by omega, by omega, h1, ?_⟩)
      rw [h3]
      intro hk
      have hw := t_tk_kw (X := X) h1 hN
      unfold t_ck at hk
      rw [if_neg tk.1] at hk
      rcases hw with hw | hw | hw | hw | hw | hw
      · rw [if_pos hw.1] at hk; omega
      · rw [if_neg (by omega), if_pos hw.1] at hk; omega
      · rw [if_neg (by omega), if_neg (by omega), if_pos hw] at hk; omega
      · rw [if_neg (by omega), if_neg (by omega), if_neg (by omega), if_pos hw] at hk; omega
      · rw [if_neg (by omega), if_neg (by omega), if_neg (by omega), if_neg (by omega), if_pos hw.1] at hk
        split at hk <;> omega
      · exact h2 hw
    · rcases h3 with h3 | ⟨h3, h4, h5, -⟩
      · exact Or.inr (Or.inl h3)
      · exact Or.inr (Or.inr ⟨by omega, by omega, h1, by omega⟩)
  · rw [if_neg h1] at h
    exact Or.inl ⟨h.1, h.2, by omega⟩
end YB
