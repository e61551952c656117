/-! rows. -/
section RW
variable {K W : Nat → Int} {P : Nat → Nat} {n sl : Nat} {SH : Nat → Nat × Nat} {FI : Nat → Nat → Int32} {FL : Nat → Nat → Int64} {FR : Nat → Nat → Option Nat} {t T f : Nat} {o : Int} {B : List Int} {s : hS}
/-- a location's length is written ahead of it -/
theorem e_patch2 {FI : Nat → Nat → Int32} {B1 B2 : List Int} {x y : Int} {i j : Nat} {a b : Int32} (h : e_vw FI (B1 ++ x :: y :: B2)) (hi : B1.length ≤ 4000 → i = B1.length) (hj : B1.length + 1 ≤ 4000 → j = B1.length + 1) : e_vw (h_up (h_up FI 154 i a) 154 j b) (B1 ++ a.toInt :: b.toInt :: B2) := by
  have h1 := e_patch (y := a) h hi
  have e1 : B1 ++ a.toInt :: y :: B2 = (B1 ++ [a.toInt]) ++ y :: B2 := by simp
  rw [e1] at h1
  have h2 := e_patch (y := b) (i := j) h1 (fun h => by rw [List.length_append] at h ⊢; exact hj h)
  have e2 : (B1 ++ [a.toInt]) ++ b.toInt :: B2 = B1 ++ a.toInt :: b.toInt :: B2 := by simp
  rw [e2] at h2
  exact h2
def q_row (K W : Nat → Int) (FI : Nat → Nat → Int32) (T md t : Nat) (B : List Int) (s : hS) (r : Option (Nat × Nat × List Int × Bool)) : Prop := match r with
  | none => (s.2.2.2.1 121 69).toInt ≠ 0
  | some (t1, m1, c, b) => t < t1 ∧ t1 ≤ T ∧ ((au_bn (K t1) (W t1) = 4 ∧ (s.2.2.2.1 121 69).toInt ≠ 0) ∨ (d_vw K W s.2.2.2.1 s.2.2.2.2.1 t1 0 (B ++ (c ++ (lc_by 0 8 ++ lc_by 0 8))) ∧ (s.2.2.2.1 159 md).toInt = m1 ∧ (∀ i, i ≠ md → s.2.2.2.1 159 i = FI 159 i) ∧ s.2.2.2.1 163 = (if b = true then va_up (FI 163) md 1 else FI 163)))
theorem va_up_up {α : Type} {F : Nat → α} {k : Nat} {x y : α} : va_up (va_up F k x) k y = va_up F k y := by
  funext i
  simp only [va_up]
  split <;> rfl
theorem d_rows (hk : tk_ok K W P T) (hf : 12 * T + 20 < f) {md : Nat} : ∀ (g : Nat) (l1 : Int32) (n sl : Nat) (SH : Nat → Nat × Nat) (FI : Nat → Nat → Int32) (FL : Nat → Nat → Int64) (FR : Nat → Nat → Option Nat) (v : Unit) (s : hS) (g2 m t : Nat) (B : List Int), GX12_rows_2 g l1 n sl SH FI FL FR v s → h_S n SH → l1.toInt ≠ 0 → (FI 121 78).toInt = md → (FI 159 md).toInt = m → m ≤ 8 → 9 - m ≤ g2 → t ≤ T → d_vw K W FI FL t 0 B → q_row K W FI T md t B s (lp_rw K W f g2 m t) := by
  intro g
  induction g with
  | zero => intro l1 n sl SH FI FL FR v s g2 m t B h; exact h.elim
  | succ g ih =>
    intro l1 n sl SH FI FL FR v s g2 m t B h hS hl1 hmd hm hm8 hg2 ht hd
    have hk0 := hk
    obtain ⟨hg, hP, hT, hT2, hn, hPT⟩ := hk0
    have c3 : ((3 : Int32)).toInt = 3 := by decide
    have c8 : ((8 : Int32)).toInt = 8 := by decide
    have c4000 : ((4000 : Int32)).toInt = 4000 := by decide
    cases g2 with
    | zero => omega
    | succ g2 =>
      have hK : (FI 149 (FI 121 68).toInt.toNat).toInt = K t := by rw [tk_i hd.1, tk_K hd.1]
      have hW : (FL 150 (FI 121 68).toInt.toNat).toInt = W t := by rw [tk_i hd.1, tk_W hd.1]
      have hmd2 : (FI 121 78).toInt.toNat = md := by omega
      have bad140 : ∀ (x : Int64) (n sl : Nat) (SH : Nat → Nat × Nat) (FI : Nat → Nat → Int32) (FL : Nat → Nat → Int64) (FR : Nat → Nat → Option Nat), RX12_rows_140 (GX12_rows_2 g) x n sl SH FI FL FR v s → (FI 121 69).toInt ≠ 0 → (s.2.2.2.1 121 69).toInt ≠ 0 := by
        intro x n sl SH FI FL FR h hz
        rcases h with ⟨h1, h⟩ | ⟨h1, h⟩
        · exact absurd h1 hz
        · obtain ⟨-, rfl⟩ := h
          exact hz
      have bad114 : ∀ (x : Int64) (n sl : Nat) (SH : Nat → Nat × Nat) (FI : Nat → Nat → Int32) (FL : Nat → Nat → Int64) (FR : Nat → Nat → Option Nat), RX12_rows_114 (GX12_rows_2 g) x n sl SH FI FL FR v s → (FI 121 69).toInt ≠ 0 → (s.2.2.2.1 121 69).toInt ≠ 0 := by
        intro x n sl SH FI FL FR h hz
        rcases h with ⟨h1, h⟩ | ⟨h1, h⟩
        · exact absurd h1 hz
        · exact bad140 _ _ _ _ _ _ _ h hz
      have bad54 : ∀ (n sl : Nat) (SH : Nat → Nat × Nat) (FI : Nat → Nat → Int32) (FL : Nat → Nat → Int64) (FR : Nat → Nat → Option Nat), RX12_rows_54 (GX12_rows_2 g) n sl SH FI FL FR v s → (FI 121 69).toInt ≠ 0 → (s.2.2.2.1 121 69).toInt ≠ 0 := by
        intro n sl SH FI FL FR h hz
        rcases h with ⟨h1, h⟩ | ⟨h1, h⟩
        · exact absurd h1 hz
        · obtain ⟨-, rfl⟩ := h
          exact hz
      have bad262 : ∀ (n sl : Nat) (SH : Nat → Nat × Nat) (FI : Nat → Nat → Int32) (FL : Nat → Nat → Int64) (FR : Nat → Nat → Option Nat), RX12_rows_262 (GX12_rows_2 g) n sl SH FI FL FR v s → (FI 121 69).toInt ≠ 0 → (s.2.2.2.1 121 69).toInt ≠ 0 := fun n sl SH FI FL FR h hz => (kX12_rows_262 (fun x0 n sl SH FI FL FR v s h => kGX12_rows_2 g x0 n sl SH FI FL FR v s h) h).2.2.2.2.2.2 hz
      -- one row is told: on, or to the end
      have next : ∀ (n sl : Nat) (SH : Nat → Nat × Nat) (F7 : Nat → Nat → Int32) (FL : Nat → Nat → Int64) (FR : Nat → Nat → Option Nat) (t1 : Nat) (c : List Int), RX12_rows_262 (GX12_rows_2 g) n sl SH F7 FL FR v s → h_S n SH → m < 8 → t < t1 → t1 ≤ T → K t = 3 → d_vw K W F7 FL t1 0 (B ++ (lc_by (W t) 8 ++ (lc_by (W (t + 2)) 8 ++ (lc_by c.length 2 ++ c)))) → (F7 121 78).toInt = md → F7 159 = FI 159 → F7 163 = (if 300 < c.length then va_up (FI 163) md 1 else FI 163) → q_row K W FI T md t B s (if K t1 = 5 ∧ W t1 = 44 then
          match lp_rw K W f g2 (m + 1) (t1 + 1) with
          | none => none
          | some (t2, m2, c2, b2) => some (t2, m2, lc_by (W t) 8 ++ (lc_by (W (t + 2)) 8 ++ (lc_by c.length 2 ++ (c ++ c2))), decide (300 < c.length) || b2)
        else some (t1, m + 1, lc_by (W t) 8 ++ (lc_by (W (t + 2)) 8 ++ (lc_by c.length 2 ++ c)), decide (300 < c.length))) := by
        intro n sl SH F7 FL FR t1 c h hS7 hm7 htt ht1 h3 h7 h78 h159 h163
        obtain ⟨-, -, h⟩ := h
        have hmd7 : (F7 121 78).toInt.toNat = md := by omega
        have e159 : (F7 159 md + 1).toInt = ((m + 1 : Nat) : Int) := by
          rw [h159, i_add hm (by decide : ((1 : Int32)).toInt = 1) (by omega) (by omega)]; omega
        rw [hmd7] at h
        have h8 := d_ce (c := 159) (k := md) (x := F7 159 md + 1) h7 (by decide) (by decide) (by decide)
        have hsg := tk_sign (SH := SH) (FR := FR) h8.1 (by decide : ((44 : Int32)).toInt = 44)
        have fin : ∀ h : GX12_rows_2 g 0 n sl SH (h_up F7 159 md (F7 159 md + 1)) FL FR v s, d_vw K W s.2.2.2.1 s.2.2.2.2.1 t1 0 (B ++ ((lc_by (W t) 8 ++ (lc_by (W (t + 2)) 8 ++ (lc_by c.length 2 ++ c))) ++ (lc_by 0 8 ++ lc_by 0 8))) ∧ (s.2.2.2.1 159 md).toInt = ((m + 1 : Nat) : Int) ∧ (∀ i, i ≠ md → s.2.2.2.1 159 i = FI 159 i) ∧ s.2.2.2.1 163 = (if decide (300 < c.length) = true then va_up (FI 163) md 1 else FI 163) := by
          intro h
          cases g with
          | zero => exact h.elim
          | succ g =>
            rcases h with ⟨h9, h⟩ | ⟨h9, h⟩
            · obtain ⟨v1, n1, sl1, SH1, FI1, FL1, FR1, ha, v2, n2, sl2, SH2, FI2, FL2, FR2, hb, h⟩ := h
              obtain ⟨-, rfl⟩ := h
              have ka := kX12_emits ha
              have kb := kX12_emits hb
              have z0 : ((0 : Int64)).toInt = 0 := by decide
              have ea := em_emits (m := 8) ha (by decide) (by decide)
              have eb := em_emits (m := 8) hb (by decide) (by decide)
              rw [z0] at ea eb
              have q1 := d_em (a := (n, sl, SH, _, FL, FR)) (b := (n1, sl1, SH1, FI1, FL1, FR1)) h8 ka ea (by decide)
              have q2 := d_em (a := (n1, sl1, SH1, FI1, FL1, FR1)) (b := (n2, sl2, SH2, FI2, FL2, FR2)) q1 kb eb (by decide)
              have r159 : FI2 159 = h_up F7 159 md (F7 159 md + 1) 159 := by rw [show FI2 159 = FI1 159 from kq_cell kb (by decide), show FI1 159 = h_up F7 159 md (F7 159 md + 1) 159 from kq_cell ka (by decide)]
              have r163 : FI2 163 = F7 163 := by rw [show FI2 163 = FI1 163 from kq_cell kb (by decide), show FI1 163 = h_up F7 159 md (F7 159 md + 1) 163 from kq_cell ka (by decide), h_up_nc (by decide)]
              refine ⟨?_, ?_, fun i hi => ?_, ?_⟩
              · rw [List.append_assoc, List.append_assoc] at q2
                exact q2
              · show (FI2 159 md).toInt = _
                rw [r159, h_up_eq]; exact e159
              · show FI2 159 i = _
                rw [r159, h_up_ne hi, h159]
              · show FI2 163 = _
                rw [r163, h163]
                simp only [decide_eq_true_eq]
            · exact absurd (show ((0 : Int32)).toInt = 0 by decide) h9
        rcases h with ⟨h10, h⟩ | ⟨h10, h⟩
        · rcases h with ⟨h11, h⟩ | ⟨h11, h⟩
          · have n44 := hsg.mp h11
            rw [if_neg n44]
            refine ⟨htt, ht1, Or.inr ?_⟩
            rcases h with ⟨h12, h⟩ | ⟨h12, h⟩
            · exact fin h
            · exact absurd (show ((0 : Int32)).toInt = 0 by decide) h12
          · have h44 : K t1 = 5 ∧ W t1 = 44 := Classical.byContradiction (fun hn => h11 (hsg.mpr hn))
            rw [if_pos h44]
            have ht2 := lt_T hT ht1 (by omega)
            rcases h with ⟨h12, h⟩ | ⟨h12, h⟩
            · exact absurd h12 (by decide)
            · have h9 := d_ti h8 (tk_n1 h8.1) (by omega)
              have k := ih 1 n sl SH _ FL FR v s g2 (m + 1) (t1 + 1) _ h hS7 (by decide) (by rw [h_up_x (by decide), h_up_nc (by decide)]; exact h78) (by rw [h_up_nc (by decide), h_up_eq]; exact e159) (by omega) (by omega) ht2 h9
              generalize lp_rw K W f g2 (m + 1) (t1 + 1) = r at k
              match r, k with
              | none, k => exact k
              | some (t2, m2, c2, b2), ⟨k1, k2, k3⟩ =>
                refine ⟨by omega, k2, ?_⟩
                rcases k3 with k3 | ⟨k3, k4, k5, k6⟩
                · exact Or.inl k3
                · refine Or.inr ⟨?_, k4, fun i hi => ?_, ?_⟩
                  · have e : B ++ (lc_by (W t) 8 ++ (lc_by (W (t + 2)) 8 ++ (lc_by c.length 2 ++ c))) ++ (c2 ++ (lc_by 0 8 ++ lc_by 0 8)) = B ++ (lc_by (W t) 8 ++ (lc_by (W (t + 2)) 8 ++ (lc_by c.length 2 ++ (c ++ c2))) ++ (lc_by 0 8 ++ lc_by 0 8)) := by simp only [List.append_assoc]
                    rw [e] at k3
                    exact k3
                  · rw [k5 i hi, h_up_nc (by decide), h_up_ne hi, h159]
                  · rw [k6, h_up_nc (by decide), h_up_nc (by decide), h163]
                    by_cases hc : 300 < c.length
                    · cases b2
                      · simp [hc]
                      · simp [hc, va_up_up]
                    · cases b2
                      · simp [hc]
                      · simp [hc]
        · exact absurd h7.2.1 h10
      rw [lp_rw]
      rcases h with ⟨h1, h⟩ | ⟨h1, h⟩
      · exact absurd h1 hl1
      · rcases h with ⟨h2, h⟩ | ⟨h2, h⟩
        · obtain ⟨hp0, h⟩ := h
          rcases h with ⟨h3, h⟩ | ⟨h3, h⟩
          · rw [hK, c3] at h3
            have hr := (hg t).1 h3
            have ht1 := lt_T hT ht (by omega)
            obtain ⟨-, h⟩ := h
            rw [hmd2, hm, c8] at h
            rcases h with ⟨h4, h⟩ | ⟨h4, h⟩
            · rw [if_neg (by omega)]
              obtain ⟨v4, n4, sl4, SH4, FI4, FL4, FR4, hc, h⟩ := h
              exact bad54 _ _ _ _ _ _ h (f_fault hc (by decide))
            · rcases h with ⟨h5, h⟩ | ⟨h5, h⟩
              · obtain ⟨-, v4, n4, sl4, SH4, FI4, FL4, FR4, hc, h⟩ := h
                have kc := kX12_need hc
                have hd1 := d_ti hd (tk_n1 hd.1) (by omega)
                have hS4 : h_S n4 SH4 := by rw [show n4 = n from kc.1, show SH4 = SH from kc.2.2.1]; exact hS
                have bad4 : (FI4 121 69).toInt ≠ 0 → (s.2.2.2.1 121 69).toInt ≠ 0 := by
                  intro hz
                  rcases h with ⟨h7, h⟩ | ⟨h7, h⟩
                  · exact absurd h7 hz
                  · exact bad114 _ _ _ _ _ _ _ h hz
                rcases d_need hc (by decide : ((256 : Int32)).toInt = 256) hd1 (by omega) with ⟨g3, g4, g5⟩ | ⟨g3, g4⟩
                · have ht2 := lt_T hT ht1 (by omega)
                  have hK2 : (FI4 149 (FI4 121 68).toInt.toNat).toInt = K (t + 2) := by rw [tk_i g5.1, tk_K g5.1]
                  have hW2 : (FL4 150 (FI4 121 68).toInt.toNat).toInt = W (t + 2) := by rw [tk_i g5.1, tk_W g5.1]
                  rcases h with ⟨h7, h⟩ | ⟨h7, h⟩
                  · obtain ⟨-, h⟩ := h
                    rcases h with ⟨h8, h⟩ | ⟨h8, h⟩
                    · rw [hK2, c3] at h8
                      have hr2 := (hg (t + 2)).1 h8
                      have ht3 : t + 3 ≤ T := lt_T (t := t + 2) hT ht2 (by omega)
                      rcases h with ⟨h9, h⟩ | ⟨h9, h⟩
                      · obtain ⟨-, h⟩ := h
                        rw [hW, hW2] at h
                        rcases h with ⟨h10, h⟩ | ⟨h10, h⟩
                        · rcases h with ⟨h11, h⟩ | ⟨h11, h⟩
                          · obtain ⟨v5, n5, sl5, SH5, FI5, FL5, FR5, he, -, v6, n6, sl6, SH6, FI6, FL6, FR6, hx, v7, n7, sl7, SH7, FI7, FL7, FR7, hy, v8, n8, sl8, SH8, FI8, FL8, FR8, hz, h⟩ := h
                            have ke := kX12_emits he
                            have kx := kX12_emits hx
                            have ky := kX12_need hy
                            have kz := kX12_emits hz
                            have ee := em_emits (m := 8) he (by decide) (by decide)
                            rw [hW] at ee
                            have r1 := d_em (a := (n4, sl4, SH4, FI4, FL4, FR4)) (b := (n5, sl5, SH5, FI5, FL5, FR5)) g5 ke ee (by decide)
                            have hW5 : (FL5 150 (FI5 121 68).toInt.toNat).toInt = W (t + 2) := by rw [tk_i r1.1, tk_W r1.1]
                            have ex := em_emits (m := 8) hx (by decide) (by decide)
                            rw [hW5] at ex
                            have r2 := d_em (a := (n5, sl5, SH5, FI5, FL5, FR5)) (b := (n6, sl6, SH6, FI6, FL6, FR6)) r1 kx ex (by decide)
                            have r3 := d_ti r2 (tk_n1 r2.1) (by omega)
                            have bad8 : (FI8 121 69).toInt ≠ 0 → (s.2.2.2.1 121 69).toInt ≠ 0 := by
                              intro hq
                              rcases h with ⟨h12, h⟩ | ⟨h12, h⟩
                              · exact absurd h12 hq
                              · obtain ⟨-, rfl⟩ := h
                                exact hq
                            rcases d_need hy (by decide : ((58 : Int32)).toInt = 58) r3 (by omega) with ⟨w3, w4, w5⟩ | ⟨w3, w4⟩
                            · have ht4 : t + 4 ≤ T := lt_T (t := t + 3) hT ht3 (by have w3b : K (t + 3) = 5 := w3; omega)
                              rw [if_pos ⟨h3, by omega, g3, g4, h8, h10, w3, w4⟩]
                              have ez := em_emits (m := 2) hz (by decide) (by decide)
                              have e02 : lc_by ((0 : Int64)).toInt 2 = [0, 0] := by decide
                              rw [e02] at ez
                              have r4 := d_em (a := (n7, sl7, SH7, FI7, FL7, FR7)) (b := (n8, sl8, SH8, FI8, FL8, FR8)) w5 kz ez (by decide)
                              have hS8 : h_S n8 SH8 := by rw [show n8 = n7 from kz.1, show n7 = n6 from ky.1, show n6 = n5 from kx.1, show n5 = n4 from ke.1, show SH8 = SH7 from kz.2.2.1, show SH7 = SH6 from ky.2.2.1, show SH6 = SH5 from kx.2.2.1, show SH5 = SH4 from ke.2.2.1]; exact hS4
                              have u78 : FI8 121 78 = FI 121 78 := by
                                rw [show FI8 121 78 = FI7 121 78 from kq_fld kz (by decide), show FI7 121 78 = h_up FI6 121 68 (FI6 121 68 + 1) 121 78 from kq_fld ky (by decide), h_up_x (by decide), show FI6 121 78 = FI5 121 78 from kq_fld kx (by decide), show FI5 121 78 = FI4 121 78 from kq_fld ke (by decide), show FI4 121 78 = h_up FI 121 68 (FI 121 68 + 1) 121 78 from kq_fld kc (by decide), h_up_x (by decide)]
                              have u159 : FI8 159 = FI 159 := by
                                rw [show FI8 159 = FI7 159 from kq_cell kz (by decide), show FI7 159 = h_up FI6 121 68 (FI6 121 68 + 1) 159 from kq_cell ky (by decide), h_up_nc (by decide), show FI6 159 = FI5 159 from kq_cell kx (by decide), show FI5 159 = FI4 159 from kq_cell ke (by decide), show FI4 159 = h_up FI 121 68 (FI 121 68 + 1) 159 from kq_cell kc (by decide), h_up_nc (by decide)]
                              have u163 : FI8 163 = FI 163 := by
                                rw [show FI8 163 = FI7 163 from kq_cell kz (by decide), show FI7 163 = h_up FI6 121 68 (FI6 121 68 + 1) 163 from kq_cell ky (by decide), h_up_nc (by decide), show FI6 163 = FI5 163 from kq_cell kx (by decide), show FI5 163 = FI4 163 from kq_cell ke (by decide), show FI4 163 = h_up FI 121 68 (FI 121 68 + 1) 163 from kq_cell kc (by decide), h_up_nc (by decide)]
                              rcases h with ⟨h12, h⟩ | ⟨h12, h⟩
                              · obtain ⟨v9, n9, sl9, SH9, FI9, FL9, FR9, hL, h⟩ := h
                                have kL := kX12_location hL
                                have q : q_loc K W FI8 T md (t + 4) (B ++ lc_by (W t) 8 ++ lc_by (W (t + 2)) 8 ++ [0, 0]) (n9, sl9, SH9, FI9, FL9, FR9) (lp_lc K W f (t + 4)) := d_location (md := md) (t := t + 4) hL hS8 hk ht4 hf r4 (by rw [u78]; exact hmd)
                                have small : ∀ t1 c, lp_lc K W f (t + 4) = some (t1, c) → t1 ≤ T → c.length ≤ 3000 := by
                                  intro t1 c e h1
                                  have q := lp_lc_P hP e
                                  have q2 := tk_P_le hP hn h1 (Nat.le_refl _)
                                  omega
                                have hS9 : h_S n9 SH9 := by rw [show n9 = n8 from kL.1, show SH9 = SH8 from kL.2.2.1]; exact hS8
                                have u78' : FI9 121 78 = FI 121 78 := by rw [show FI9 121 78 = FI8 121 78 from kq_fld kL (by decide), u78]
                                have u159' : FI9 159 = FI 159 := by rw [show FI9 159 = FI8 159 from kq_cell kL (by decide), u159]
                                have bad9 : (FI9 121 69).toInt ≠ 0 → (s.2.2.2.1 121 69).toInt ≠ 0 := by
                                  intro hq
                                  rcases h with ⟨h13, h⟩ | ⟨h13, h⟩
                                  · exact bad262 _ _ _ _ _ _ h hq
                                  · exact bad262 _ _ _ _ _ _ h.2.2 (by rw [h_up_nc (by decide), h_up_nc (by decide)]; exact hq)
                                generalize lp_lc K W f (t + 4) = r at q small
                                match r, q with
                                | none, q => exact bad9 q
                                | some (t1, c), ⟨q1, q2, q3⟩ =>
                                  dsimp only
                                  rcases q3 with ⟨q3, q4⟩ | ⟨q3, q4⟩
                                  · rw [if_neg (by rintro ⟨e1, e2⟩; rw [e1, e2] at q3; exact absurd q3 (by decide))]
                                    exact ⟨by omega, q2, Or.inl ⟨q3, bad9 q4⟩⟩
                                  · rw [u163] at q4
                                    have hcl := small t1 c rfl q2
                                    have e5 : B ++ lc_by (W t) 8 ++ lc_by (W (t + 2)) 8 ++ [0, 0] ++ c = (B ++ lc_by (W t) 8 ++ lc_by (W (t + 2)) 8) ++ 0 :: 0 :: c := by simp
                                    rw [e5] at q3
                                    have hat : FI7 121 73 = Int32.ofNat (B ++ lc_by (W t) 8 ++ lc_by (W (t + 2)) 8).length := w5.2.2.2.1
                                    have h73 : FI9 121 73 = Int32.ofNat ((B ++ lc_by (W t) 8 ++ lc_by (W (t + 2)) 8) ++ 0 :: 0 :: c).length := q3.2.2.2.1
                                    have e6 : (B ++ lc_by (W t) 8 ++ lc_by (W (t + 2)) 8) ++ (c.length : Int) % 256 :: (c.length : Int) / 256 % 256 :: c = B ++ (lc_by (W t) 8 ++ (lc_by (W (t + 2)) 8 ++ (lc_by c.length 2 ++ c))) := by simp [lc_by]
                                    rcases h with ⟨h13, h⟩ | ⟨h13, h⟩
                                    · have hq3 : d_vw K W FI9 FL9 t1 0 ((B ++ lc_by (W t) 8 ++ lc_by (W (t + 2)) 8) ++ (c.length : Int) % 256 :: (c.length : Int) / 256 % 256 :: c) := by
                                        refine ⟨q3.1, q3.2.1, q3.2.2.1, e_vw_ln q3.2.2.2 (by simp) ?_⟩
                                        rw [c4000, h73] at h13
                                        rcases Nat.lt_or_ge 4000 ((B ++ lc_by (W t) 8 ++ lc_by (W (t + 2)) 8) ++ 0 :: 0 :: c).length with h2 | h2
                                        · exact h2
                                        · rw [i_lit (by omega)] at h13
                                          omega
                                      rw [e6] at hq3
                                      exact next n9 sl9 SH9 FI9 FL9 FR9 t1 c h hS9 (by omega) (by omega) q2 h3 hq3 (by rw [u78']; exact hmd) u159' q4
                                    · replace h := h.2.2
                                      have hx : ((FI9 121 73 - FI7 121 73) - (2 : Int32)).toInt = c.length := by
                                        rw [h73, hat, List.length_append, Int32.ofNat_add, Int32.add_comm, Int32.add_sub_cancel]
                                        rw [i_sub (i_lit (n := (0 :: 0 :: c).length) (by simp only [List.length_cons]; omega)) (by decide : ((2 : Int32)).toInt = 2) (by simp only [List.length_cons]; omega) (by simp only [List.length_cons]; omega)]
                                        simp only [List.length_cons]
                                        omega
                                      have hp2 := e_patch2 (a := ((FI9 121 73 - FI7 121 73) - (2 : Int32)) &&& (255 : Int32)) (b := (((FI9 121 73 - FI7 121 73) - (2 : Int32)) >>> ((8 : Int32) &&& 31)) &&& (255 : Int32)) (i := (FI7 121 73).toInt.toNat) (j := (FI7 121 73 + (1 : Int32)).toInt.toNat) q3.2.2.2 (fun hl => by rw [hat, i_lit (by omega)]; omega) (fun hl => by rw [i_add (show (FI7 121 73).toInt = _ by rw [hat, i_lit (by omega)]) (by decide : ((1 : Int32)).toInt = 1) (by omega) (by omega)]; omega)
                                      rw [i_m255, i_m255, i_sh8 hx, hx, e6] at hp2
                                      refine next n9 sl9 SH9 _ FL9 FR9 t1 c h hS9 (by omega) (by omega) q2 h3 ⟨⟨?_, q3.1.2.1, ?_, q3.1.2.2.2⟩, ?_, ?_, hp2⟩ ?_ ?_ ?_
                                      · rw [h_up_nc (by decide), h_up_nc (by decide)]; exact q3.1.1
                                      · rw [h_up_nc (by decide), h_up_nc (by decide)]; exact q3.1.2.2.1
                                      · rw [h_up_nc (by decide), h_up_nc (by decide)]; exact q3.2.1
                                      · rw [h_up_nc (by decide), h_up_nc (by decide)]; exact q3.2.2.1
                                      · rw [h_up_nc (by decide), h_up_nc (by decide), u78']; exact hmd
                                      · rw [h_up_nc (by decide), h_up_nc (by decide)]; exact u159'
                                      · rw [h_up_nc (by decide), h_up_nc (by decide)]; exact q4
                              · exact absurd r4.2.1 h12
                            · rw [if_neg (by rintro ⟨-, -, -, -, -, -, e1, e2⟩; exact w3 ⟨e1, e2⟩)]
                              exact bad8 (kz.2.2.2.2.2.2 w4)
                          · exact absurd g5.2.1 h11
                        · rw [if_neg (by omega)]
                          obtain ⟨v6, n6, sl6, SH6, FI6, FL6, FR6, hx, h⟩ := h
                          exact bad140 _ _ _ _ _ _ _ h (f_fault hx (by decide))
                      · exact absurd g5.2.1 h9
                    · rw [hK2, c3] at h8
                      rw [if_neg (by omega)]
                      obtain ⟨v6, n6, sl6, SH6, FI6, FL6, FR6, hx, h⟩ := h
                      exact bad114 _ _ _ _ _ _ _ h (f_fault hx (by decide))
                  · exact absurd g5.2.1 h7
                · rw [if_neg (by rintro ⟨-, -, e1, e2, -⟩; exact g3 ⟨e1, e2⟩)]
                  exact bad4 g4
              · exact absurd hd.2.1 h5
          · rw [hK, c3] at h3
            rw [if_neg (by omega)]
            obtain ⟨v4, n4, sl4, SH4, FI4, FL4, FR4, hc, h⟩ := h
            exact bad54 _ _ _ _ _ _ h (f_fault hc (by decide))
        · exact absurd hd.2.1 h2
end RW
