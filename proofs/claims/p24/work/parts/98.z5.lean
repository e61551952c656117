/-! What the tokens are worth. -/
section TO
variable {X : Nat → Int} {N : Nat}
theorem t_tk_ok {i : Nat} (hi : i < N) (hN : N ≤ 1000) : (t_tk X N i).1 ≠ 0 ∧ ((t_tk X N i).1 = 3 → (0 ≤ (t_tk X N i).2.1 ∧ (t_tk X N i).2.1 ≤ 999999999999999999) ∧ ((t_tk X N i).2.2 ≤ i + 2 → (t_tk X N i).2.1 < 100)) ∧ ((t_tk X N i).1 = 4 → (1 ≤ (t_tk X N i).2.1 ∧ (t_tk X N i).2.1 ≤ 8) ∧ i + 2 ≤ (t_tk X N i).2.2) ∧ ((t_tk X N i).1 = 2 → i + 2 ≤ (t_tk X N i).2.2) ∧ ((t_tk X N i).1 = 5 ∧ (t_tk X N i).2.1 = 256 → i + 2 ≤ (t_tk X N i).2.2) := by
  unfold t_tk
  split
  · rename_i hs
    have ha : t_al (t_sg X N i) = true := by unfold t_al; rw [hs, Bool.true_or]
    have h1 : i + 1 ≤ t_rn t_al X N 1001 i := by
      rw [show (1001 : Nat) = 1000 + 1 from rfl, t_rn_s ha]
      exact t_rn_ge 1000 (i + 1)
    split
    · exact ⟨by simp, fun h => absurd h (by simp), fun h => absurd h (by simp), fun h => absurd h (by simp), fun h => absurd h.1 (by simp)⟩
    · rename_i h8
      split
      · exact ⟨by simp, fun h => absurd h (by simp), fun h => absurd h (by simp), fun h => absurd h (by simp), fun h => absurd h.1 (by simp)⟩
      · rename_i hw
        refine ⟨by simp, fun h => absurd h (by simp), fun h => absurd h (by simp), fun _ => ?_, fun h => absurd h.1 (by simp)⟩
        dsimp only
        rcases Nat.lt_or_ge (t_rn t_al X N 1001 i) (i + 2) with h2 | h2
        · exfalso
          apply hw
          have e : t_rn t_al X N 1001 i - i = 1 := by omega
          have c := t_cd_rg ha
          have e2 : t_wv X N i (t_rn t_al X N 1001 i - i) = t_cd (t_sg X N i) := by
            rw [e, t_wv, t_wv, Nat.add_zero]
            omega
          rw [e2]
          unfold t_wd
          rw [if_neg (by omega), if_neg (by omega), if_neg (by omega), if_neg (by omega), if_neg (by omega), if_neg (by omega), if_neg (by omega), if_neg (by omega), if_neg (by omega), if_neg (by omega)]
        · exact h2
  · split
    · rename_i hs hd
      have hin := t_rn_in (p := t_dg) (X := X) (N := N) 1001 i
      have hge := t_rn_ge (p := t_dg) (X := X) (N := N) 1001 i
      refine ⟨?_, fun h => ?_, fun h => ?_, fun h => ?_, fun h => ?_⟩
      · dsimp only; split
        · simp
        · split <;> simp
      · dsimp only at h ⊢
        have rg := t_nv_rg (X := X) (N := N) (i := i) (min (t_rn t_dg X N 1001 i - i) 18) (fun j h1 h2 => hin j h1 (by omega)) (by omega)
        have p := p10_18 (min (t_rn t_dg X N 1001 i - i) 18) (by omega)
        refine ⟨by omega, fun h2 => ?_⟩
        have p2 : ∀ m : Nat, m ≤ 2 → (10 : Int) ^ m ≤ 100 := by decide
        have := p2 (min (t_rn t_dg X N 1001 i - i) 18) (by omega)
        omega
      · exfalso
        dsimp only at h
        split at h
        · simp at h
        · split at h <;> simp at h
      · exfalso
        dsimp only at h
        split at h
        · simp at h
        · split at h <;> simp at h
      · exfalso
        have h := h.1
        dsimp only at h
        split at h
        · simp at h
        · split at h <;> simp at h
    · split
      · split
        · rename_i h1 h2
          exact ⟨by simp, fun h => absurd h (by simp), fun _ => ⟨by dsimp only; omega, Nat.le_refl _⟩, fun h => absurd h (by simp), fun h => absurd h.1 (by simp)⟩
        · exact ⟨by simp, fun h => absurd h (by simp), fun h => absurd h (by simp), fun h => absurd h (by simp), fun h => absurd h.1 (by simp)⟩
      · dsimp only
        generalize t_sg X N i = C
        unfold t_sn
        split
        · exact ⟨by simp, fun h => absurd h (by simp), fun h => absurd h (by simp), fun h => absurd h (by simp), fun _ => by dsimp only; split <;> omega⟩
        · split
          · rename_i h1 h2
            refine ⟨by simp, fun h => absurd h (by simp), fun h => absurd h (by simp), fun h => absurd h (by simp), fun h => ?_⟩
            exfalso
            have h3 := h.2
            dsimp only at h3
            subst h3
            exact absurd h2 (by decide)
          · exact ⟨by simp, fun h => absurd h (by simp), fun h => absurd h (by simp), fun h => absurd h (by simp), fun h => absurd h.1 (by simp)⟩
/-- the row of tokens: its end, and what holds from each to the next -/
theorem t_tl_ok (hN : N ≤ 1000) : ∀ (f i : Nat), N - i < f → i ≤ N → ∃ T, (t_tl X N f i).length = T + 1 ∧ T ≤ N - i ∧ (t_tl X N f i)[T]? = some (0, 0, N) ∧ (∀ x, (t_tl X N f i)[0]? = some x → i ≤ x.2.2) ∧ (∀ j x, j < T → (t_tl X N f i)[j]? = some x → x.2.2 < N ∧ x.1 = (t_tk X N x.2.2).1 ∧ x.2.1 = (t_tk X N x.2.2).2.1 ∧ ∀ y, (t_tl X N f i)[j + 1]? = some y → (t_tk X N x.2.2).2.2 ≤ y.2.2) := by
  intro f
  induction f with
  | zero => intro i h; omega
  | succ f ih =>
    intro i hf hi
    rw [t_tl]
    by_cases h1 : i < N
    · rw [if_pos h1]
      by_cases h2 : t_bl (t_sg X N i) = true
      · rw [if_pos h2]
        obtain ⟨T, q1, q2, q3, q4, q5⟩ := ih (i + 1) (by omega) (by omega)
        exact ⟨T, q1, by omega, q3, fun x hx => by have := q4 x hx; omega, q5⟩
      · rw [if_neg h2]
        have te := t_tk_e (X := X) h1 hN
        obtain ⟨T, q1, q2, q3, q4, q5⟩ := ih (t_tk X N i).2.2 (by omega) te.2
        refine ⟨T + 1, by rw [List.length_cons, q1], by omega, by rw [List.getElem?_cons_succ]; exact q3, fun x hx => ?_, fun j x hj hx => ?_⟩
        · rw [List.getElem?_cons_zero] at hx
          cases hx
          exact Nat.le_refl _
        · cases j with
          | zero =>
            rw [List.getElem?_cons_zero] at hx
            cases hx
            refine ⟨h1, rfl, rfl, fun y hy => ?_⟩
            rw [List.getElem?_cons_succ] at hy
            exact q4 y hy
          | succ j =>
            rw [List.getElem?_cons_succ] at hx
            have q := q5 j x (by omega) hx
            refine ⟨q.1, q.2.1, q.2.2.1, fun y hy => ?_⟩
            rw [List.getElem?_cons_succ] at hy
            exact q.2.2.2 y hy
    · rw [if_neg h1]
      have e : i = N := by omega
      subst e
      exact ⟨0, rfl, by omega, rfl, fun x hx => by rw [List.getElem?_cons_zero] at hx; cases hx; exact Nat.le_refl _, fun j x hj => by omega⟩
/-- tokens: what is given to the reading of a text -/
theorem t_tokens {n sl : Nat} {SH : Nat → Nat × Nat} {FI : Nat → Nat → Int32} {FL : Nat → Nat → Int64} {FR : Nat → Nat → Option Nat} {v : Unit} {s : hS} (h : RX12_tokens n sl SH FI FL FR v s) (hx : x_vw FI X N) (hr : rl_t (FI 149) (FL 150)) : ∃ P T, (t_tl X N 1001 0).length = T + 1 ∧ tk_ok (kf (s.2.2.2.1 149)) (wf (s.2.2.2.2.1 150)) P T ∧ (s.2.2.2.1 121 67).toInt = ((T + 1 : Nat) : Int) ∧ (∀ i x, (t_tl X N 1001 0)[i]? = some x → kf (s.2.2.2.1 149) i = x.1 ∧ wf (s.2.2.2.2.1 150) i = x.2.1 ∧ (i ≤ T → P i = x.2.2)) := by
  have hN := hx.2.1
  obtain ⟨g, h⟩ := h
  have hx2 : x_vw (h_up FI 121 67 0) X N := ⟨by rw [h_up_x (by decide)]; exact hx.1, hN, by rw [h_up_nc (by decide)]; exact hx.2.2⟩
  have hv0 : t_vw (h_up FI 121 67 0) FL (h_up FI 121 67 0) FL [] := ⟨by rw [h_up_eq]; decide, fun i x hi => by simp at hi, fun i _ => ⟨rfl, rfl⟩⟩
  have q := t_7 (F0 := h_up FI 121 67 0) (L0 := FL) g 0 n sl SH _ FL FR v s 1001 0 [] h hx2 (by decide) (by omega) (by omega) (by simp) hv0
  rw [List.nil_append] at q
  obtain ⟨T, r1, r2, r3, r4, r5⟩ := t_tl_ok (X := X) hN 1001 0 (by omega) (by omega)
  obtain ⟨v1, v2, v3⟩ := q
  have get : ∀ i, i ≤ T → ∃ x, (t_tl X N 1001 0)[i]? = some x := fun i hi => ⟨_, List.getElem?_eq_getElem (by omega)⟩
  have hKW : ∀ i x, (t_tl X N 1001 0)[i]? = some x → kf (s.2.2.2.1 149) i = x.1 ∧ wf (s.2.2.2.2.1 150) i = x.2.1 := fun i x hi => ⟨(v2 i x hi).1, (v2 i x hi).2.1⟩
  have old : ∀ i, T < i → kf (s.2.2.2.1 149) i = (FI 149 i).toInt ∧ wf (s.2.2.2.2.1 150) i = (FL 150 i).toInt := by
    intro i hi
    have := v3 i (by omega)
    refine ⟨?_, ?_⟩
    · show (s.2.2.2.1 149 i).toInt = _
      rw [this.1, h_up_nc (by decide)]
    · show (s.2.2.2.2.1 150 i).toInt = _
      rw [this.2]
  refine ⟨fun i => if i ≤ T then ((t_tl X N 1001 0).getD i (0, 0, 0)).2.2 else N + 3 * (i - T), T, r1, ⟨?_, ?_, ?_, by omega, ?_, ?_⟩, by rw [v1, r1], ?_⟩
  · intro i
    rcases Nat.lt_or_ge T i with hi | hi
    · have o := old i hi
      rw [o.1, o.2]
      exact hr i
    · obtain ⟨x, hxi⟩ := get i hi
      have k := hKW i x hxi
      rw [k.1, k.2]
      by_cases e : i = T
      · subst e
        rw [r3] at hxi
        cases hxi
        exact ⟨fun h => absurd h (by simp), fun h => absurd h (by simp)⟩
      · have p := r5 i x (by omega) hxi
        have tk := t_tk_ok (X := X) p.1 hN
        rw [p.2.1, p.2.2.1]
        exact ⟨fun h => (tk.2.1 h).1, fun h => (tk.2.2.1 h).1⟩
  · intro i hk
    dsimp only
    rcases Nat.lt_or_ge T i with hi | hi
    · rw [if_neg (by omega), if_neg (by omega)]
      exact ⟨by omega, fun _ _ => by omega, fun _ => by omega, fun _ => by omega, fun _ => by omega⟩
    · obtain ⟨x, hxi⟩ := get i hi
      have k := hKW i x hxi
      have hiT : i < T := by
        rcases Nat.lt_or_ge i T with h2 | h2
        · exact h2
        · exfalso
          have e : i = T := by omega
          subst e
          rw [r3] at hxi
          cases hxi
          exact hk k.1
      obtain ⟨y, hyi⟩ := get (i + 1) (by omega)
      have p := r5 i x hiT hxi
      have py := p.2.2.2 y hyi
      have tk := t_tk_ok (X := X) p.1 hN
      have te := t_tk_e (X := X) p.1 hN
      rw [if_pos hi, if_pos (by omega)]
      simp only [List.getD_eq_getElem?_getD, hxi, hyi, Option.getD_some]
      rw [k.1, k.2, p.2.1, p.2.2.1]
      exact ⟨by omega, fun h h2 => (tk.2.1 h).2 (by omega), fun h => by have := (tk.2.2.1 h).2; omega, fun h => by have := tk.2.2.2.1 h; omega, fun h => by have := tk.2.2.2.2 h; omega⟩
  · exact (hKW T _ r3).1
  · intro i hi
    obtain ⟨x, hxi⟩ := get i (by omega)
    have p := r5 i x hi hxi
    rw [(hKW i x hxi).1, p.2.1]
    exact (t_tk_ok (X := X) p.1 hN).1
  · dsimp only
    rw [if_pos (Nat.le_refl _)]
    simp only [List.getD_eq_getElem?_getD, r3, Option.getD_some]
    exact hN
  · intro i x hi
    refine ⟨(hKW i x hi).1, (hKW i x hi).2, fun hT => ?_⟩
    dsimp only
    rw [if_pos hT]
    simp only [List.getD_eq_getElem?_getD, hi, Option.getD_some]
end TO
