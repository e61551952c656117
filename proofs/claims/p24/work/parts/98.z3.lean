/-! signs. -/
section SG
variable {X : Nat → Int} {N : Nat} {n sl : Nat} {SH : Nat → Nat × Nat} {FI : Nat → Nat → Int32} {FL : Nat → Nat → Int64} {FR : Nat → Nat → Option Nat} {s : hS} {c a : Int32} {C : Int} {i : Nat}
theorem sg_356 {v m r : Int32} {V : Int} (h : RX12_signs_356 c a v m n sl SH FI FL FR r s) (ha : a.toInt = i) (hv : v.toInt = V) : t_ap (n, sl, SH, FI, FL, FR) s (if V = -1 then 6 else 5, V, i) ∧ r = m := by
  have cm1 : ((-1 : Int32)).toInt = -1 := by decide
  rcases h with ⟨h1, h⟩ | ⟨h1, h⟩
  · rw [hv, cm1] at h1
    obtain ⟨v1, n1, sl1, SH1, FI1, FL1, FR1, hc, rfl, rfl⟩ := h
    rw [if_pos h1]
    exact ⟨t_token hc (by decide) (i_2l hv) ha, rfl⟩
  · rw [hv, cm1] at h1
    obtain ⟨v1, n1, sl1, SH1, FI1, FL1, FR1, hc, rfl, rfl⟩ := h
    rw [if_neg h1]
    exact ⟨t_token hc (by decide) (i_2l hv) ha, rfl⟩
theorem sg_337 {m r : Int32} (h : RX12_signs_337 c a m n sl SH FI FL FR r s) (ha : a.toInt = i) (hc : c.toInt = C) (h0 : 0 ≤ C) : t_ap (n, sl, SH, FI, FL, FR) s (5, C, i) ∧ r = m := by
  rcases h with ⟨h1, h⟩ | ⟨h1, h⟩
  · exact absurd h1 (by decide)
  · have q := sg_356 h ha hc
    rw [if_neg (by omega)] at q
    exact q
theorem sg_258 {m r : Int32} (h : RX12_signs_258 c a m 0 n sl SH FI FL FR r s) (ha : a.toInt = i) (hc : c.toInt = C) (h0 : 0 ≤ C) (hA : ¬ (C = 61 ∨ C = 59 ∨ C = 44 ∨ C = 58 ∨ C = 123 ∨ C = 125 ∨ C = 91 ∨ C = 93 ∨ C = 40 ∨ C = 41)) : t_ap (n, sl, SH, FI, FL, FR) s (if t_s1 C = true then 5 else 6, if t_s1 C = true then C else -1, i) ∧ r = m := by
  have good : t_s1 C = true → RX12_signs_337 c a m n sl SH FI FL FR r s → t_ap (n, sl, SH, FI, FL, FR) s (if t_s1 C = true then 5 else 6, if t_s1 C = true then C else -1, i) ∧ r = m := by
    intro h1 h
    rw [if_pos h1, if_pos h1]
    exact sg_337 h ha hc h0
  rcases h with ⟨-, h⟩ | ⟨h1, h⟩
  · rw [hc] at h
    rcases h with ⟨g47, h⟩ | ⟨g47, h⟩
    · exact good (by unfold t_s1; exact decide_eq_true (by have z : ((47 : Int32)).toInt = 47 := (by decide); omega)) h
    · have z47 : ((47 : Int32)).toInt = 47 := by decide
      rcases h with ⟨g37, h⟩ | ⟨g37, h⟩
      · exact good (by unfold t_s1; exact decide_eq_true (by have z : ((37 : Int32)).toInt = 37 := (by decide); omega)) h
      · have z37 : ((37 : Int32)).toInt = 37 := by decide
        rcases h with ⟨g63, h⟩ | ⟨g63, h⟩
        · exact good (by unfold t_s1; exact decide_eq_true (by have z : ((63 : Int32)).toInt = 63 := (by decide); omega)) h
        · have z63 : ((63 : Int32)).toInt = 63 := by decide
          rcases h with ⟨g124, h⟩ | ⟨g124, h⟩
          · exact good (by unfold t_s1; exact decide_eq_true (by have z : ((124 : Int32)).toInt = 124 := (by decide); omega)) h
          · have z124 : ((124 : Int32)).toInt = 124 := by decide
            rcases h with ⟨g94, h⟩ | ⟨g94, h⟩
            · exact good (by unfold t_s1; exact decide_eq_true (by have z : ((94 : Int32)).toInt = 94 := (by decide); omega)) h
            · have z94 : ((94 : Int32)).toInt = 94 := by decide
              rcases h with ⟨g38, h⟩ | ⟨g38, h⟩
              · exact good (by unfold t_s1; exact decide_eq_true (by have z : ((38 : Int32)).toInt = 38 := (by decide); omega)) h
              · have z38 : ((38 : Int32)).toInt = 38 := by decide
                rcases h with ⟨g60, h⟩ | ⟨g60, h⟩
                · exact good (by unfold t_s1; exact decide_eq_true (by have z : ((60 : Int32)).toInt = 60 := (by decide); omega)) h
                · have z60 : ((60 : Int32)).toInt = 60 := by decide
                  rcases h with ⟨g62, h⟩ | ⟨g62, h⟩
                  · exact good (by unfold t_s1; exact decide_eq_true (by have z : ((62 : Int32)).toInt = 62 := (by decide); omega)) h
                  · have z62 : ((62 : Int32)).toInt = 62 := by decide
                    rcases h with ⟨g43, h⟩ | ⟨g43, h⟩
                    · exact good (by unfold t_s1; exact decide_eq_true (by have z : ((43 : Int32)).toInt = 43 := (by decide); omega)) h
                    · have z43 : ((43 : Int32)).toInt = 43 := by decide
                      rcases h with ⟨g45, h⟩ | ⟨g45, h⟩
                      · exact good (by unfold t_s1; exact decide_eq_true (by have z : ((45 : Int32)).toInt = 45 := (by decide); omega)) h
                      · have z45 : ((45 : Int32)).toInt = 45 := by decide
                        rcases h with ⟨g42, h⟩ | ⟨g42, h⟩
                        · exact good (by unfold t_s1; exact decide_eq_true (by have z : ((42 : Int32)).toInt = 42 := (by decide); omega)) h
                        · have z42 : ((42 : Int32)).toInt = 42 := by decide
                          rcases h with ⟨g126, h⟩ | ⟨g126, h⟩
                          · exact good (by unfold t_s1; exact decide_eq_true (by have z : ((126 : Int32)).toInt = 126 := (by decide); omega)) h
                          · have z126 : ((126 : Int32)).toInt = 126 := by decide
                            have hn : ¬ t_s1 C = true := by
                              unfold t_s1
                              rw [decide_eq_true_eq]
                              omega
                            rw [if_neg hn, if_neg hn]
                            rcases h with ⟨h1, h⟩ | ⟨h1, h⟩
                            · have q := sg_356 h ha (by decide : ((-1 : Int32)).toInt = -1)
                              rw [if_pos rfl] at q
                              exact q
                            · exact absurd (show ((0 : Int32)).toInt = 0 by decide) h1
  · exact absurd (show ((0 : Int32)).toInt = 0 by decide) h1
theorem sg_184 {v m r : Int32} {V : Int} (h : RX12_signs_184 c a v m n sl SH FI FL FR r s) (ha : a.toInt = i) (hc : c.toInt = C) (h0 : 0 ≤ C) (hv : v.toInt = V) : (V ≠ -1 ∧ t_ap (n, sl, SH, FI, FL, FR) s (5, V, i) ∧ r = m) ∨ (V = -1 ∧ t_ap (n, sl, SH, FI, FL, FR) s (if t_s1 C = true then 5 else 6, if t_s1 C = true then C else -1, i) ∧ r = 1) := by
  have cm1 : ((-1 : Int32)).toInt = -1 := by decide
  have good : t_s1 C = true → RX12_signs_253 c a 1 n sl SH FI FL FR r s → t_ap (n, sl, SH, FI, FL, FR) s (if t_s1 C = true then 5 else 6, if t_s1 C = true then C else -1, i) ∧ r = 1 := by
    intro h1 h
    rw [if_pos h1, if_pos h1]
    rcases h with ⟨h2, h⟩ | ⟨h2, h⟩
    · exact absurd h2 (by decide)
    · exact sg_337 h ha hc h0
  rcases h with ⟨h1, h⟩ | ⟨h1, h⟩
  · rw [hv, cm1] at h1
    refine Or.inr ⟨h1, ?_⟩
    rw [hc] at h
    rcases h with ⟨g61, h⟩ | ⟨g61, h⟩
    · exact good (by unfold t_s1; exact decide_eq_true (by have z : ((61 : Int32)).toInt = 61 := (by decide); omega)) h
    · have z61 : ((61 : Int32)).toInt = 61 := by decide
      rcases h with ⟨g59, h⟩ | ⟨g59, h⟩
      · exact good (by unfold t_s1; exact decide_eq_true (by have z : ((59 : Int32)).toInt = 59 := (by decide); omega)) h
      · have z59 : ((59 : Int32)).toInt = 59 := by decide
        rcases h with ⟨g44, h⟩ | ⟨g44, h⟩
        · exact good (by unfold t_s1; exact decide_eq_true (by have z : ((44 : Int32)).toInt = 44 := (by decide); omega)) h
        · have z44 : ((44 : Int32)).toInt = 44 := by decide
          rcases h with ⟨g58, h⟩ | ⟨g58, h⟩
          · exact good (by unfold t_s1; exact decide_eq_true (by have z : ((58 : Int32)).toInt = 58 := (by decide); omega)) h
          · have z58 : ((58 : Int32)).toInt = 58 := by decide
            rcases h with ⟨g123, h⟩ | ⟨g123, h⟩
            · exact good (by unfold t_s1; exact decide_eq_true (by have z : ((123 : Int32)).toInt = 123 := (by decide); omega)) h
            · have z123 : ((123 : Int32)).toInt = 123 := by decide
              rcases h with ⟨g125, h⟩ | ⟨g125, h⟩
              · exact good (by unfold t_s1; exact decide_eq_true (by have z : ((125 : Int32)).toInt = 125 := (by decide); omega)) h
              · have z125 : ((125 : Int32)).toInt = 125 := by decide
                rcases h with ⟨g91, h⟩ | ⟨g91, h⟩
                · exact good (by unfold t_s1; exact decide_eq_true (by have z : ((91 : Int32)).toInt = 91 := (by decide); omega)) h
                · have z91 : ((91 : Int32)).toInt = 91 := by decide
                  rcases h with ⟨g93, h⟩ | ⟨g93, h⟩
                  · exact good (by unfold t_s1; exact decide_eq_true (by have z : ((93 : Int32)).toInt = 93 := (by decide); omega)) h
                  · have z93 : ((93 : Int32)).toInt = 93 := by decide
                    rcases h with ⟨g40, h⟩ | ⟨g40, h⟩
                    · exact good (by unfold t_s1; exact decide_eq_true (by have z : ((40 : Int32)).toInt = 40 := (by decide); omega)) h
                    · have z40 : ((40 : Int32)).toInt = 40 := by decide
                      rcases h with ⟨g41, h⟩ | ⟨g41, h⟩
                      · exact good (by unfold t_s1; exact decide_eq_true (by have z : ((41 : Int32)).toInt = 41 := (by decide); omega)) h
                      · have z41 : ((41 : Int32)).toInt = 41 := by decide
                        exact sg_258 h ha hc h0 (by omega)
  · rw [hv, cm1] at h1
    have q := sg_356 h ha hv
    rw [if_neg h1] at q
    exact Or.inl ⟨h1, q⟩
theorem t_sn_2 {c n m V : Int} (h : t_s2 c n m = V) (hV : V ≠ -1) : t_sn c n m = (5, V, if V = 263 then 3 else 2) := by
  unfold t_sn
  rw [h, if_pos hV]
theorem t_sn_1 {c n m : Int} (h : t_s2 c n m = -1) : t_sn c n m = (if t_s1 c = true then 5 else 6, if t_s1 c = true then c else -1, 1) := by
  unfold t_sn
  rw [if_neg (by rw [h]; simp)]
  split <;> rfl
theorem sg_signs {r : Int32} (h : RX12_signs c a n sl SH FI FL FR r s) (hx : x_vw FI X N) (ha : a.toInt = i) (hi : i < N) (hc : c.toInt = t_sg X N i) : t_ap (n, sl, SH, FI, FL, FR) s ((t_sn (t_sg X N i) (t_sg X N (i + 1)) (t_sg X N (i + 2))).1, (t_sn (t_sg X N i) (t_sg X N (i + 1)) (t_sg X N (i + 2))).2.1, i) ∧ r.toInt = (t_sn (t_sg X N i) (t_sg X N (i + 1)) (t_sg X N (i + 2))).2.2 := by
  have hN := hx.2.1
  have h0 : 0 ≤ t_sg X N i := by unfold t_sg; rw [if_pos hi]; exact (hx.2.2 i hi).2.1
  have e1 := x_sign (SH := SH) (FL := FL) (FR := FR) hx (a := a + (1 : Int32)) (i := i + 1) (by rw [i_add ha (by decide : ((1 : Int32)).toInt = 1) (by omega) (by omega)]; omega)
  have e2 := x_sign (SH := SH) (FL := FL) (FR := FR) hx (a := a + (2 : Int32)) (i := i + 2) (by rw [i_add ha (by decide : ((2 : Int32)).toInt = 2) (by omega) (by omega)]; omega)
  generalize t_sg X N i = C at hc h0 ⊢
  generalize t_sg X N (i + 1) = D at e1 ⊢
  generalize t_sg X N (i + 2) = E at e2 ⊢
  have hit : ∀ (v m : Int32) (V : Int), v.toInt = V → V ≠ -1 → m.toInt = ((if V = 263 then 3 else 2 : Nat) : Int) → t_s2 C D E = V → RX12_signs_184 c a v m n sl SH FI FL FR r s → t_ap (n, sl, SH, FI, FL, FR) s ((t_sn C D E).1, (t_sn C D E).2.1, i) ∧ r.toInt = (t_sn C D E).2.2 := by
    intro v m V hv hV hm h2 h
    rw [t_sn_2 h2 hV]
    rcases sg_184 h ha hc h0 hv with ⟨-, q1, q2⟩ | ⟨q1, -⟩
    · exact ⟨q1, by rw [q2]; exact hm⟩
    · exact absurd q1 hV
  have miss : ∀ (m : Int32), t_s2 C D E = -1 → RX12_signs_184 c a (-1) m n sl SH FI FL FR r s → t_ap (n, sl, SH, FI, FL, FR) s ((t_sn C D E).1, (t_sn C D E).2.1, i) ∧ r.toInt = (t_sn C D E).2.2 := by
    intro m h2 h
    rw [t_sn_1 h2]
    rcases sg_184 h ha hc h0 (by decide : ((-1 : Int32)).toInt = -1) with ⟨q1, -⟩ | ⟨-, q1, q2⟩
    · exact absurd rfl q1
    · exact ⟨q1, by rw [q2]; rfl⟩
  have c46 : ((46 : Int32)).toInt = 46 := by decide
  have c61 : ((61 : Int32)).toInt = 61 := by decide
  have c33 : ((33 : Int32)).toInt = 33 := by decide
  have c60 : ((60 : Int32)).toInt = 60 := by decide
  have c62 : ((62 : Int32)).toInt = 62 := by decide
  have s134 : RX12_signs_134 c a (fX12_sign (a + (1 : Int32)) SH FI FL FR) (-1) 2 n sl SH FI FL FR r s → ¬ (C = 46 ∧ D = 46) → ¬ (C = 61 ∧ D = 61) → ¬ (C = 33 ∧ D = 61) → ¬ (C = 60 ∧ D = 61) → ¬ (C = 62 ∧ D = 61) → ¬ (C = 60 ∧ D = 60) → t_ap (n, sl, SH, FI, FL, FR) s ((t_sn C D E).1, (t_sn C D E).2.1, i) ∧ r.toInt = (t_sn C D E).2.2 := by
    intro h a1 a2 a3 a4 a5 a6
    rcases h with ⟨h1, h⟩ | ⟨h1, h⟩
    · rw [hc, c62] at h1
      rcases h with ⟨h2, h⟩ | ⟨h2, h⟩
      · rw [e1, c62] at h2
        rcases h with ⟨h3, h⟩ | ⟨h3, h⟩
        · rw [e2, c62] at h3
          rcases h with ⟨h4, h⟩ | ⟨h4, h⟩
          · exact hit 263 3 263 (by decide) (by decide) (by decide) (by unfold t_s2; rw [if_neg a1, if_neg a2, if_neg a3, if_neg a4, if_neg a5, if_neg a6, if_pos ⟨h1, h2⟩, if_pos h3]) h
          · exact absurd rfl h4
        · rw [e2, c62] at h3
          rcases h with ⟨h4, h⟩ | ⟨h4, h⟩
          · exact absurd h4 (by decide)
          · exact hit 262 2 262 (by decide) (by decide) (by decide) (by unfold t_s2; rw [if_neg a1, if_neg a2, if_neg a3, if_neg a4, if_neg a5, if_neg a6, if_pos ⟨h1, h2⟩, if_neg h3]) h
      · rw [e1, c62] at h2
        exact miss 2 (by unfold t_s2; rw [if_neg a1, if_neg a2, if_neg a3, if_neg a4, if_neg a5, if_neg a6, if_neg (fun e => h2 e.2)]) h
    · rw [hc, c62] at h1
      exact miss 2 (by unfold t_s2; rw [if_neg a1, if_neg a2, if_neg a3, if_neg a4, if_neg a5, if_neg a6, if_neg (fun e => h1 e.1)]) h
  have s114 : RX12_signs_114 c a (fX12_sign (a + (1 : Int32)) SH FI FL FR) (-1) 2 n sl SH FI FL FR r s → ¬ (C = 46 ∧ D = 46) → ¬ (C = 61 ∧ D = 61) → ¬ (C = 33 ∧ D = 61) → ¬ (C = 60 ∧ D = 61) → ¬ (C = 62 ∧ D = 61) → t_ap (n, sl, SH, FI, FL, FR) s ((t_sn C D E).1, (t_sn C D E).2.1, i) ∧ r.toInt = (t_sn C D E).2.2 := by
    intro h a1 a2 a3 a4 a5
    rcases h with ⟨h1, h⟩ | ⟨h1, h⟩
    · rw [hc, c60] at h1
      rcases h with ⟨h2, h⟩ | ⟨h2, h⟩
      · rw [e1, c60] at h2
        exact hit 261 2 261 (by decide) (by decide) (by decide) (by unfold t_s2; rw [if_neg a1, if_neg a2, if_neg a3, if_neg a4, if_neg a5, if_pos ⟨h1, h2⟩]) h
      · rw [e1, c60] at h2
        exact s134 h a1 a2 a3 a4 a5 (fun e => h2 e.2)
    · rw [hc, c60] at h1
      exact s134 h a1 a2 a3 a4 a5 (fun e => h1 e.1)
  have s94 : RX12_signs_94 c a (fX12_sign (a + (1 : Int32)) SH FI FL FR) (-1) 2 n sl SH FI FL FR r s → ¬ (C = 46 ∧ D = 46) → ¬ (C = 61 ∧ D = 61) → ¬ (C = 33 ∧ D = 61) → ¬ (C = 60 ∧ D = 61) → t_ap (n, sl, SH, FI, FL, FR) s ((t_sn C D E).1, (t_sn C D E).2.1, i) ∧ r.toInt = (t_sn C D E).2.2 := by
    intro h a1 a2 a3 a4
    rcases h with ⟨h1, h⟩ | ⟨h1, h⟩
    · rw [hc, c62] at h1
      rcases h with ⟨h2, h⟩ | ⟨h2, h⟩
      · rw [e1, c61] at h2
        exact hit 260 2 260 (by decide) (by decide) (by decide) (by unfold t_s2; rw [if_neg a1, if_neg a2, if_neg a3, if_neg a4, if_pos ⟨h1, h2⟩]) h
      · rw [e1, c61] at h2
        exact s114 h a1 a2 a3 a4 (fun e => h2 e.2)
    · rw [hc, c62] at h1
      exact s114 h a1 a2 a3 a4 (fun e => h1 e.1)
  have s74 : RX12_signs_74 c a (fX12_sign (a + (1 : Int32)) SH FI FL FR) (-1) 2 n sl SH FI FL FR r s → ¬ (C = 46 ∧ D = 46) → ¬ (C = 61 ∧ D = 61) → ¬ (C = 33 ∧ D = 61) → t_ap (n, sl, SH, FI, FL, FR) s ((t_sn C D E).1, (t_sn C D E).2.1, i) ∧ r.toInt = (t_sn C D E).2.2 := by
    intro h a1 a2 a3
    rcases h with ⟨h1, h⟩ | ⟨h1, h⟩
    · rw [hc, c60] at h1
      rcases h with ⟨h2, h⟩ | ⟨h2, h⟩
      · rw [e1, c61] at h2
        exact hit 259 2 259 (by decide) (by decide) (by decide) (by unfold t_s2; rw [if_neg a1, if_neg a2, if_neg a3, if_pos ⟨h1, h2⟩]) h
      · rw [e1, c61] at h2
        exact s94 h a1 a2 a3 (fun e => h2 e.2)
    · rw [hc, c60] at h1
      exact s94 h a1 a2 a3 (fun e => h1 e.1)
  have s54 : RX12_signs_54 c a (fX12_sign (a + (1 : Int32)) SH FI FL FR) (-1) 2 n sl SH FI FL FR r s → ¬ (C = 46 ∧ D = 46) → ¬ (C = 61 ∧ D = 61) → t_ap (n, sl, SH, FI, FL, FR) s ((t_sn C D E).1, (t_sn C D E).2.1, i) ∧ r.toInt = (t_sn C D E).2.2 := by
    intro h a1 a2
    rcases h with ⟨h1, h⟩ | ⟨h1, h⟩
    · rw [hc, c33] at h1
      rcases h with ⟨h2, h⟩ | ⟨h2, h⟩
      · rw [e1, c61] at h2
        exact hit 258 2 258 (by decide) (by decide) (by decide) (by unfold t_s2; rw [if_neg a1, if_neg a2, if_pos ⟨h1, h2⟩]) h
      · rw [e1, c61] at h2
        exact s74 h a1 a2 (fun e => h2 e.2)
    · rw [hc, c33] at h1
      exact s74 h a1 a2 (fun e => h1 e.1)
  have s34 : RX12_signs_34 c a (fX12_sign (a + (1 : Int32)) SH FI FL FR) (-1) 2 n sl SH FI FL FR r s → ¬ (C = 46 ∧ D = 46) → t_ap (n, sl, SH, FI, FL, FR) s ((t_sn C D E).1, (t_sn C D E).2.1, i) ∧ r.toInt = (t_sn C D E).2.2 := by
    intro h a1
    rcases h with ⟨h1, h⟩ | ⟨h1, h⟩
    · rw [hc, c61] at h1
      rcases h with ⟨h2, h⟩ | ⟨h2, h⟩
      · rw [e1, c61] at h2
        exact hit 257 2 257 (by decide) (by decide) (by decide) (by unfold t_s2; rw [if_neg a1, if_pos ⟨h1, h2⟩]) h
      · rw [e1, c61] at h2
        exact s54 h a1 (fun e => h2 e.2)
    · rw [hc, c61] at h1
      exact s54 h a1 (fun e => h1 e.1)
  rcases h with ⟨h1, h⟩ | ⟨h1, h⟩
  · rw [hc, c46] at h1
    rcases h with ⟨h2, h⟩ | ⟨h2, h⟩
    · rw [e1, c46] at h2
      exact hit 256 2 256 (by decide) (by decide) (by decide) (by unfold t_s2; rw [if_pos ⟨h1, h2⟩]) h
    · rw [e1, c46] at h2
      exact s34 h (fun e => h2 e.2)
  · rw [hc, c46] at h1
    exact s34 h (fun e => h1 e.1)
end SG
