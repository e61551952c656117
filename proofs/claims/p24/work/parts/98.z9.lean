/-! @, signs; a token of the class. -/
section YT
variable {X : Nat → Int} {N tp : Nat} {n sl : Nat} {SH : Nat → Nat × Nat} {FI : Nat → Nat → Int32} {FL : Nat → Nat → Int64} {FR : Nat → Nat → Option Nat} {s : hS}
theorem y_s2 {a b : Int32} {C D : Int} (ha : a.toInt = C) (hb : b.toInt = D) : (fX7_signOfTwo a b SH FI FL FR).toInt = if t_s2 C D 0 = -1 then 3 else t_s2 C D 0 - 239 := by
  have c61 : ((61 : Int32)).toInt = 61 := by decide
  have c33 : ((33 : Int32)).toInt = 33 := by decide
  have c60 : ((60 : Int32)).toInt = 60 := by decide
  have c62 : ((62 : Int32)).toInt = 62 := by decide
  have c46 : ((46 : Int32)).toInt = 46 := by decide
  unfold fX7_signOfTwo t_s2
  rw [ha, hb, c61, c33, c60, c62, c46]
  by_cases d1 : D = 61
  · subst d1
    by_cases e1 : C = 61
    · subst e1; decide
    · by_cases e2 : C = 33
      · subst e2; decide
      · by_cases e3 : C = 60
        · subst e3; decide
        · by_cases e4 : C = 62
          · subst e4; decide
          · simp [e1, e2, e3, e4]
  · by_cases e0 : C = D
    · subst e0
      by_cases e2 : C = 46
      · subst e2; decide
      · by_cases e3 : C = 60
        · subst e3; decide
        · by_cases e4 : C = 62
          · subst e4; decide
          · simp [d1, e2, e3, e4]
    · have hs : (if C = 46 ∧ D = 46 then (256 : Int) else if C = 61 ∧ D = 61 then 257 else if C = 33 ∧ D = 61 then 258 else if C = 60 ∧ D = 61 then 259 else if C = 62 ∧ D = 61 then 260 else if C = 60 ∧ D = 60 then 261 else if C = 62 ∧ D = 62 then (if (0 : Int) = 62 then 263 else 262) else -1) = -1 := by
        rw [if_neg (by omega), if_neg (by omega), if_neg (by omega), if_neg (by omega), if_neg (by omega), if_neg (by omega), if_neg (by omega)]
      rw [if_neg d1, if_neg e0, hs]
      decide
theorem t_s2_m {C D E : Int} : t_s2 C D E = if t_s2 C D 0 = 262 ∧ E = 62 then 263 else t_s2 C D 0 := by
  unfold t_s2
  by_cases a1 : C = 46 ∧ D = 46
  · simp [a1]
  · by_cases a2 : C = 61 ∧ D = 61
    · simp [a2]
    · by_cases a3 : C = 33 ∧ D = 61
      · simp [a3]
      · by_cases a4 : C = 60 ∧ D = 61
        · simp [a4]
        · by_cases a5 : C = 62 ∧ D = 61
          · simp [a5]
          · by_cases a6 : C = 60 ∧ D = 60
            · simp [a6]
            · by_cases a7 : C = 62 ∧ D = 62
              · rw [if_neg a1, if_neg a2, if_neg a3, if_neg a4, if_neg a5, if_neg a6, if_pos a7, if_neg a1, if_neg a2, if_neg a3, if_neg a4, if_neg a5, if_neg a6, if_pos a7]
                by_cases e : E = 62
                · simp [e]
                · simp [e]
              · rw [if_neg a1, if_neg a2, if_neg a3, if_neg a4, if_neg a5, if_neg a6, if_neg a7, if_neg a1, if_neg a2, if_neg a3, if_neg a4, if_neg a5, if_neg a6, if_neg a7]
                simp
theorem t_s2_rg (C D E : Int) : t_s2 C D E = -1 ∨ (256 ≤ t_s2 C D E ∧ t_s2 C D E ≤ 263) := by
  unfold t_s2
  repeat' split
  all_goals omega
theorem y_to_2 {F0 F2 : Nat → Nat → Int32} {e kd : Int32} {E : Nat} {K : Int} (h0 : ∀ c k, ¬ (c = 111 ∧ (k = 8 ∨ k = 9)) → F0 c k = FI c k) (hF : F2 = h_up (h_up F0 111 9 kd) 111 8 e) (he : e.toInt = E) (hk : kd.toInt = K) : y_to FI F2 FL FL E K := by
  subst hF
  refine ⟨fun c k hck => ?_, fun _ _ _ => rfl, by rw [h_up_eq]; exact he, by rw [h_up_x (by decide), h_up_eq]; exact hk⟩
  rw [h_up_x (by rintro ⟨rfl, rfl⟩; exact hck ⟨rfl, Or.inl rfl⟩), h_up_x (by rintro ⟨rfl, rfl⟩; exact hck ⟨rfl, Or.inr rfl⟩)]
  exact h0 c k hck
theorem y_63 {a : Int32} {C : Int} {p : Nat} {v : Unit} {F0 : Nat → Nat → Int32} (h : RX7_readSign_63 a n sl SH F0 FL FR v s) (h0 : ∀ c k, ¬ (c = 111 ∧ (k = 8 ∨ k = 9)) → F0 c k = FI c k) (h7 : (F0 111 7).toInt = p) (hp : p ≤ 1000) (ha : a.toInt = C) (hC : 0 ≤ C ∧ C ≤ 255) : ∃ F2, s = (n, sl, SH, F2, FL, FR) ∧ y_to FI F2 FL FL (if (F0 111 9).toInt = 3 then p + 1 else p + 2) (if (F0 111 9).toInt = 3 then (if t_s1 C = true then C else 3) else (F0 111 9).toInt) := by
  have e1 : ((F0 111 7) + ((1 : Int32))).toInt = ((p + 1 : Nat) : Int) := by rw [i_add h7 (by decide : ((1 : Int32)).toInt = 1) (by omega) (by omega)]; omega
  have e2 : ((F0 111 7) + ((2 : Int32))).toInt = ((p + 2 : Nat) : Int) := by rw [i_add h7 (by decide : ((2 : Int32)).toInt = 2) (by omega) (by omega)]; omega
  have c3 : ((3 : Int32)).toInt = 3 := by decide
  rcases h with ⟨h1, h⟩ | ⟨h1, h⟩
  · rw [c3] at h1
    rw [if_pos h1, if_pos h1]
    obtain ⟨v1, n1, sl1, SH1, FI1, FL1, FR1, hc, h⟩ := h
    obtain ⟨q1, q2⟩ := y_indexOf hc ha hC.1 hC.2
    cases q1
    rcases h with ⟨h2, h⟩ | ⟨h2, h⟩
    · obtain ⟨-, rfl⟩ := h
      rw [if_neg (by rw [q2.mp h2]; simp)]
      exact ⟨_, rfl, y_to_2 h0 rfl e1 c3⟩
    · obtain ⟨-, rfl⟩ := h
      have : t_s1 C = true := by
        cases e : t_s1 C with
        | true => rfl
        | false => exact absurd (q2.mpr e) h2
      rw [if_pos this]
      exact ⟨_, rfl, y_to_2 h0 rfl e1 ha⟩
  · rw [c3] at h1
    rw [if_neg h1, if_neg h1]
    obtain ⟨-, rfl⟩ := h
    refine ⟨_, rfl, fun c k hck => ?_, fun _ _ _ => rfl, by rw [h_up_eq]; exact e2, by rw [h_up_x (by decide)]⟩
    rw [h_up_x (by rintro ⟨rfl, rfl⟩; exact hck ⟨rfl, Or.inl rfl⟩)]
    exact h0 c k hck
theorem y_readSign {a : Int32} {p : Nat} {v : Unit} (h : RX7_readSign a n sl SH FI FL FR v s) (hy : y_vw SH FI FR tp X N) (h7 : (FI 111 7).toInt = p) (hpN : p < N) (ha : a.toInt = t_sg X N p) : ∃ F2, s = (n, sl, SH, F2, FL, FR) ∧ y_to FI F2 FL FL (p + (t_sn (t_sg X N p) (t_sg X N (p + 1)) (t_sg X N (p + 2))).2.2) (t_ck (t_sn (t_sg X N p) (t_sg X N (p + 1)) (t_sg X N (p + 2))).1 (t_sn (t_sg X N p) (t_sg X N (p + 1)) (t_sg X N (p + 2))).2.1) := by
  have hN := hy.2.1
  have hC : 0 ≤ t_sg X N p ∧ t_sg X N p ≤ 255 := by
    unfold t_sg
    rw [if_pos hpN]
    exact (hy.2.2.2.2.2.2.2.2 p hpN).2
  obtain ⟨v0, n0, sl0, SH0, FI0, FL0, FR0, hc, h⟩ := h
  obtain ⟨q1, q2⟩ := y_letter (i := p + 1) hc hy (by rw [i_add h7 (by decide : ((1 : Int32)).toInt = 1) (by omega) (by omega)]; omega)
  cases q2
  have hs2 := y_s2 (SH := SH) (FI := FI) (FL := FL) (FR := FR) ha q1
  have c23 : ((23 : Int32)).toInt = 23 := by decide
  have hm := t_s2_m (C := t_sg X N p) (D := t_sg X N (p + 1)) (E := t_sg X N (p + 2))
  have hrg := t_s2_rg (t_sg X N p) (t_sg X N (p + 1)) 0
  have h0 : ∀ c k, ¬ (c = 111 ∧ (k = 8 ∨ k = 9)) → h_up FI 111 9 (fX7_signOfTwo a v0 SH FI FL FR) c k = FI c k := fun c k hck => h_up_x (by rintro ⟨rfl, rfl⟩; exact hck ⟨rfl, Or.inr rfl⟩)
  have h7' : (h_up FI 111 9 (fX7_signOfTwo a v0 SH FI FL FR) 111 7).toInt = p := by rw [h_up_x (by decide)]; exact h7
  have h9 : (h_up FI 111 9 (fX7_signOfTwo a v0 SH FI FL FR) 111 9).toInt = if t_s2 (t_sg X N p) (t_sg X N (p + 1)) 0 = -1 then 3 else t_s2 (t_sg X N p) (t_sg X N (p + 1)) 0 - 239 := by rw [h_up_eq]; exact hs2
  generalize t_sg X N p = C at *
  generalize t_sg X N (p + 1) = D at *
  have rest : t_s2 C D (t_sg X N (p + 2)) = t_s2 C D 0 → RX7_readSign_63 a n sl SH (h_up FI 111 9 (fX7_signOfTwo a v0 SH FI FL FR)) FL FR v s → ∃ F2, s = (n, sl, SH, F2, FL, FR) ∧ y_to FI F2 FL FL (p + (t_sn C D (t_sg X N (p + 2))).2.2) (t_ck (t_sn C D (t_sg X N (p + 2))).1 (t_sn C D (t_sg X N (p + 2))).2.1) := by
    intro he h
    obtain ⟨F2, w1, w2⟩ := y_63 (FI := FI) h h0 h7' (by omega) ha hC
    refine ⟨F2, w1, ?_⟩
    rw [h9] at w2
    by_cases hx : t_s2 C D 0 = -1
    · rw [if_pos hx, if_pos rfl, if_pos rfl] at w2
      rw [t_sn_1 (by rw [he]; exact hx)]
      by_cases hs : t_s1 C = true
      · rw [if_pos hs] at w2
        rw [if_pos hs, if_pos hs]
        have e : t_ck 5 C = C := by unfold t_ck; rw [if_neg (by decide), if_neg (by decide), if_neg (by decide), if_neg (by decide), if_neg (by decide), if_pos rfl, if_neg (by omega)]
        dsimp only
        rw [e]
        exact w2
      · rw [if_neg hs] at w2
        rw [if_neg hs, if_neg hs]
        exact w2
    · rw [if_neg hx, if_neg (by omega), if_neg (by omega)] at w2
      rw [t_sn_2 he hx]
      have e : t_ck 5 (t_s2 C D 0) = t_s2 C D 0 - 239 := by unfold t_ck; rw [if_neg (by decide), if_neg (by decide), if_neg (by decide), if_neg (by decide), if_neg (by decide), if_pos rfl, if_pos (by omega)]
      dsimp only
      rw [e, if_neg (by
        intro h263
        have : t_s2 C D 0 ≠ 263 := by
          unfold t_s2
          repeat' split
          all_goals first | omega | (intro h; exact absurd h (by decide)) | (rename_i h; exact absurd h (by decide))
        exact this h263)]
      exact w2
  rcases h with ⟨h1, h⟩ | ⟨h1, h⟩
  · rw [hs2, c23] at h1
    have h262 : t_s2 C D 0 = 262 := by
      by_cases hx : t_s2 C D 0 = -1
      · rw [if_pos hx] at h1; exact absurd h1 (by decide)
      · rw [if_neg hx] at h1; omega
    obtain ⟨v4, n4, sl4, SH4, FI4, FL4, FR4, hd, h⟩ := h
    obtain ⟨r1, r2⟩ := y_letter (i := p + 2) hd (y_fl hy (by decide)) (by rw [i_add h7 (by decide : ((2 : Int32)).toInt = 2) (by omega) (by omega)]; omega)
    cases r2
    have c62 : ((62 : Int32)).toInt = 62 := by decide
    rcases h with ⟨h2, h⟩ | ⟨h2, h⟩
    · rw [r1, c62] at h2
      obtain ⟨-, rfl⟩ := h
      rw [if_pos ⟨h262, h2⟩] at hm
      rw [t_sn_2 hm (by decide)]
      refine ⟨_, rfl, y_to_2 h0 rfl ?_ (by decide)⟩
      rw [i_add h7' (by decide : ((3 : Int32)).toInt = 3) (by omega) (by omega)]
      rfl
    · rw [r1, c62] at h2
      rw [if_neg (fun e => h2 e.2)] at hm
      exact rest hm h
  · rw [hs2, c23] at h1
    have h262 : t_s2 C D 0 ≠ 262 := by
      intro e
      rw [e] at h1
      exact h1 (by decide)
    rw [if_neg (fun e => h262 e.1)] at hm
    exact rest hm h
end YT
