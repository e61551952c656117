/-! operand. -/
section OP
variable {K W : Nat → Int} {o0 : Int} {n sl : Nat} {SH : Nat → Nat × Nat} {FI : Nat → Nat → Int32} {FL : Nat → Nat → Int64} {FR : Nat → Nat → Option Nat} {t : Nat} {S : List f_E} {o : Int} {B : List Int} {s : hS}
theorem q_at {v : Int32} {v2 : Unit} {t1 : Nat} {c : List Int} {n2 sl2 : Nat} {SH2 : Nat → Nat × Nat} {FI2 : Nat → Nat → Int32} {FL2 : Nat → Nat → Int64} {FR2 : Nat → Nat → Option Nat} (hf : RX12_finished n sl SH FI FL FR v2 (n2, sl2, SH2, FI2, FL2, FR2)) (hv : P_ret (1 : Int32) (n2, sl2, SH2, FI2, FL2, FR2) v s) (hp : p_vw K W o0 FI FL t1 S o (B ++ c)) : q_opd K W o0 s v (some (t1, false, f_fin S o (B ++ c))) := by
  obtain ⟨rfl, rfl⟩ := hv
  obtain ⟨q1, q2⟩ := p_fin hf hp
  exact ⟨q1, fun _ => q2, by constructor; (intro h; exact absurd h (by decide)); (intro h; exact Bool.noConfusion h)⟩
theorem f_opd_at {K W : Nat → Int} {t : Nat} {S : List f_E} {o : Int} {B : List Int} {t1 : Nat} {c : List Int} (h1 : ¬ lc_uy (K t) (W t) = true) (h2 : ¬ (K t = 5 ∧ W t = 40)) (h : lc_at K W (decide (f_top S < 6)) t = some (t1, c)) : f_opd K W t S o B = some (t1, false, f_fin S o (B ++ c)) := by
  unfold f_opd
  rw [if_neg h1, if_neg h2, h]
theorem op_reg {v : Unit} (h : RX12_registered n sl SH FI FL FR v s) (hS : h_S n SH) (hp : p_vw K W o0 FI FL t S o B) (hg : tk_rg K W) : if K (t + 1) = 3 ∧ W (t + 1) ≤ 31 then p_vw K W o0 s.2.2.2.1 s.2.2.2.2.1 (if (decide (f_top S < 6) && lc_ad K W (t + 2)) = true then t + 2 + 2 else t + 2) S o (B ++ (112 + W (t + 1)) :: lc_s 9 (if (decide (f_top S < 6) && lc_ad K W (t + 2)) = true then lc_sg K W (t + 2) else 0)) else (s.2.2.2.1 121 69).toInt ≠ 0 := by
  have c3 : ((3 : Int32)).toInt = 3 := by decide
  have c31 : ((31 : Int64)).toInt = 31 := by decide
  obtain ⟨hp0, h⟩ := h
  have ht1 := tk_lt hS hp0 (tk_n1 hp.1)
  have hK : (FI 149 ((FI 121 68) + ((1 : Int32))).toInt.toNat).toInt = K (t + 1) := by rw [tk_i1 hp.1, tk_K hp.1]
  have hW : (FL 150 ((FI 121 68) + ((1 : Int32))).toInt.toNat).toInt = W (t + 1) := by rw [tk_i1 hp.1, tk_W hp.1]
  rcases h with ⟨h1, h⟩ | ⟨h1, h⟩
  · rw [hK, c3] at h1
    have hr := (hg (t + 1)).1 h1
    obtain ⟨-, h⟩ := h
    rcases h with ⟨h2, h⟩ | ⟨h2, h⟩
    · rw [hW, c31] at h2
      rw [if_neg (by omega)]
      obtain ⟨v3, n3, sl3, SH3, FI3, FL3, FR3, hc, h⟩ := h
      exact (kX12_registered_52 h).2.2.2.2.2.2 (f_fault hc (by decide))
    · rw [hW, c31] at h2
      rw [if_pos ⟨h1, by omega⟩]
      have hp1 := p_ti hp (tk_n1 hp.1) (by omega)
      rcases h with ⟨h3, h⟩ | ⟨h3, h⟩
      · obtain ⟨-, v1, n1, sl1, SH1, FI1, FL1, FR1, hc, v3, n3, sl3, SH3, FI3, FL3, FR3, hd, v4, n4, sl4, SH4, FI4, FL4, FR4, he, h⟩ := h
        obtain ⟨-, rfl⟩ := h
        have hWt : (FL 150 ((h_up FI 121 68 ((FI 121 68) + ((1 : Int32)))) 121 68).toInt.toNat).toInt = W (t + 1) := by rw [tk_i hp1.1, tk_W hp1.1]
        have he1 := em_emit (b := 112 + W (t + 1)) hc (by
          rw [i_add (by decide : ((112 : Int32)).toInt = 112) (l_2i hWt (by omega) (by omega)) (by omega) (by omega)]
          omega)
        have hk1 := kX12_emit hc
        have hp2 := p_em (a := (n, sl, SH, _, FL, FR)) (b := (n1, sl1, SH1, FI1, FL1, FR1)) hp1 hk1 he1 (by decide)
        have hp3 := p_ti hp2 (tk_n1 hp2.1) (by omega)
        have hS1 : h_S n1 SH1 := by rw [show n1 = n from hk1.1, show SH1 = SH from hk1.2.2.1]; exact hS
        have q := p_bsf hS1 hd he (tk_n1 hp2.1) hp3 hg
        rw [List.append_assoc] at q
        exact q
      · exact absurd hp1.2.1 h3
  · rw [hK, c3] at h1
    rw [if_neg (by omega)]
    obtain ⟨v3, n3, sl3, SH3, FI3, FL3, FR3, hc, h⟩ := h
    exact (kX12_registered_52 h).2.2.2.2.2.2 (f_fault hc (by decide))
theorem op_262 {v : Int32} (h : RX12_operand_262 n sl SH FI FL FR v s) (hp : p_vw K W o0 FI FL t S o B) (ht : t < 1002) (hk : K t = 2 ∧ (W t = 5 ∨ W t = 6)) : q_opd K W o0 s v (some (t + 1, false, f_fin S o (B ++ [if W t = 5 then 156 else 151]))) := by
  rcases h with ⟨h1, h⟩ | ⟨h1, h⟩
  · rw [tk_word hp.1 (by decide : ((5 : Int32)).toInt = 5)] at h1
    obtain ⟨v2, n2, sl2, SH2, FI2, FL2, FR2, hc, v4, n4, sl4, SH4, FI4, FL4, FR4, hd, h⟩ := h
    have hp2 := p_em (a := (n, sl, SH, FI, FL, FR)) (b := (n2, sl2, SH2, FI2, FL2, FR2)) hp (kX12_emit hc) (em_emit (b := 151) hc (by decide)) (by decide)
    rw [if_neg (fun e => h1 ⟨hk.1, e⟩)]
    exact q_at hd h (p_ti hp2 (tk_n1 hp2.1) (by omega))
  · rw [tk_word hp.1 (by decide : ((5 : Int32)).toInt = 5)] at h1
    have h1' : K t = 2 ∧ W t = 5 := Classical.byContradiction (fun hn => h1 hn)
    obtain ⟨v2, n2, sl2, SH2, FI2, FL2, FR2, hc, v4, n4, sl4, SH4, FI4, FL4, FR4, hd, h⟩ := h
    have hp2 := p_em (a := (n, sl, SH, FI, FL, FR)) (b := (n2, sl2, SH2, FI2, FL2, FR2)) hp (kX12_emit hc) (em_emit (b := 156) hc (by decide)) (by decide)
    rw [if_pos h1'.2]
    exact q_at hd h (p_ti hp2 (tk_n1 hp2.1) (by omega))
theorem op_operand {v : Int32} (h : RX12_operand n sl SH FI FL FR v s) (hS : h_S n SH) (hp : p_vw K W o0 FI FL t S o B) (hg : tk_rg K W) : q_opd K W o0 s v (f_opd K W t S o B) := by
  have c4 : ((4 : Int32)).toInt = 4 := by decide
  have c3 : ((3 : Int32)).toInt = 3 := by decide
  have em1 : ((-1 : Int32)).toInt = -1 := by decide
  have hK : (FI 149 (FI 121 68).toInt.toNat).toInt = K t := by rw [tk_i hp.1, tk_K hp.1]
  have hW : (FL 150 (FI 121 68).toInt.toNat).toInt = W t := by rw [tk_i hp.1, tk_W hp.1]
  have un : ∀ (hu : lc_uy (K t) (W t) = true), RX12_operand_40 n sl SH FI FL FR v s → q_opd K W o0 s v (f_opd K W t S o B) := by
    intro hu h
    unfold f_opd
    rw [if_pos hu]
    exact op_40 h hS hp hg hu
  rcases h with ⟨h1, h⟩ | ⟨h1, h⟩
  · rw [tk_sign hp.1 (by decide : ((45 : Int32)).toInt = 45)] at h1
    rcases h with ⟨h2, h⟩ | ⟨h2, h⟩
    · rw [tk_sign hp.1 (by decide : ((126 : Int32)).toInt = 126)] at h2
      obtain ⟨hp0, h⟩ := h
      have ht := tk_lt hS hp0 (tk_n hp.1)
      rcases h with ⟨h3, h⟩ | ⟨h3, h⟩
      · rw [hK, c4] at h3
        exact un (by simp [lc_uy, h3]) h
      · rw [hK, c4] at h3
        rcases h with ⟨h4, h⟩ | ⟨h4, h⟩
        · rw [tk_word hp.1 (by decide : ((7 : Int32)).toInt = 7)] at h4
          have hu : ¬ lc_uy (K t) (W t) = true := by
            unfold lc_uy
            simp only [decide_eq_true_eq]
            omega
          rcases h with ⟨h5, h⟩ | ⟨h5, h⟩
          · rw [tk_sign hp.1 (by decide : ((40 : Int32)).toInt = 40)] at h5
            obtain ⟨-, h⟩ := h
            rcases h with ⟨h6, h⟩ | ⟨h6, h⟩
            · rw [hK, c3] at h6
              have hr := (hg t).1 h6
              obtain ⟨-, v1, n1, sl1, SH1, FI1, FL1, FR1, hc, v2, n2, sl2, SH2, FI2, FL2, FR2, hd, h⟩ := h
              have he := em_push hc (by rw [hW]; omega)
              rw [hW] at he
              have hp2 := p_em (a := (n, sl, SH, FI, FL, FR)) (b := (n1, sl1, SH1, FI1, FL1, FR1)) hp (kX12_push hc) he (by decide)
              rw [f_opd_at hu h5 (by unfold lc_at; rw [if_pos h6])]
              exact q_at hd h (p_ti hp2 (tk_n1 hp2.1) (by omega))
            · rw [hK, c3] at h6
              rcases h with ⟨h7, h⟩ | ⟨h7, h⟩
              · rw [tk_sign hp.1 (by decide : ((37 : Int32)).toInt = 37)] at h7
                rcases h with ⟨h8, h⟩ | ⟨h8, h⟩
                · rw [tk_word hp.1 (by decide : ((4 : Int32)).toInt = 4)] at h8
                  have hbs : lc_bs K W t = none := by unfold lc_bs; rw [if_neg h7, if_neg h8]
                  rcases h with ⟨h9, h⟩ | ⟨h9, h⟩
                  · rw [tk_word hp.1 (by decide : ((5 : Int32)).toInt = 5)] at h9
                    rcases h with ⟨h10, h⟩ | ⟨h10, h⟩
                    · rw [tk_word hp.1 (by decide : ((6 : Int32)).toInt = 6)] at h10
                      obtain ⟨v1, n1, sl1, SH1, FI1, FL1, FR1, hc, h⟩ := h
                      obtain ⟨-, rfl⟩ := h
                      have e : f_opd K W t S o B = none := by
                        unfold f_opd
                        rw [if_neg hu, if_neg h5]
                        unfold lc_at
                        rw [if_neg h6, if_neg h9, if_neg h10, hbs]
                      rw [e]
                      exact f_fault hc (by decide)
                    · rw [tk_word hp.1 (by decide : ((6 : Int32)).toInt = 6)] at h10
                      have h10' : K t = 2 ∧ W t = 6 := Classical.byContradiction (fun hn => h10 hn)
                      have q := op_262 h hp ht ⟨h10'.1, Or.inr h10'.2⟩
                      rw [if_neg (fun e => h9 ⟨h10'.1, e⟩)] at q
                      rw [f_opd_at hu h5 (by unfold lc_at; rw [if_neg h6, if_neg h9, if_pos h10'])]
                      exact q
                  · rw [tk_word hp.1 (by decide : ((5 : Int32)).toInt = 5)] at h9
                    have h9' : K t = 2 ∧ W t = 5 := Classical.byContradiction (fun hn => h9 hn)
                    have q := op_262 h hp ht ⟨h9'.1, Or.inl h9'.2⟩
                    rw [if_pos h9'.2] at q
                    rw [f_opd_at hu h5 (by unfold lc_at; rw [if_neg h6, if_pos h9'])]
                    exact q
                · rw [tk_word hp.1 (by decide : ((4 : Int32)).toInt = 4)] at h8
                  have h8' : K t = 2 ∧ W t = 4 := Classical.byContradiction (fun hn => h8 hn)
                  obtain ⟨v1, n1, sl1, SH1, FI1, FL1, FR1, hc, v2, n2, sl2, SH2, FI2, FL2, FR2, hd, v3, n3, sl3, SH3, FI3, FL3, FR3, he, v4, n4, sl4, SH4, FI4, FL4, FR4, hf, h⟩ := h
                  have hk1 := kX12_emit hc
                  have hp2 := p_em (a := (n, sl, SH, FI, FL, FR)) (b := (n1, sl1, SH1, FI1, FL1, FR1)) hp hk1 (em_emit (b := 145) hc (by decide)) (by decide)
                  have hp3 := p_ti hp2 (tk_n1 hp2.1) (by omega)
                  have hS1 : h_S n1 SH1 := by rw [show n1 = n from hk1.1, show SH1 = SH from hk1.2.2.1]; exact hS
                  have q := p_bsf hS1 hd he (tk_n1 hp.1) hp3 hg
                  rw [List.append_assoc] at q
                  have e : lc_at K W (decide (f_top S < 6)) t = some ((if (decide (f_top S < 6) && lc_ad K W (t + 1)) = true then t + 1 + 2 else t + 1), 145 :: lc_s 9 (if (decide (f_top S < 6) && lc_ad K W (t + 1)) = true then lc_sg K W (t + 1) else 0)) := by
                    unfold lc_at
                    rw [if_neg h6, if_neg (by omega), if_neg (by omega)]
                    have hbs : lc_bs K W t = some (t + 1, 145) := by unfold lc_bs; rw [if_neg h7, if_pos h8']
                    rw [hbs]
                    dsimp only
                    split <;> rfl
                  rw [f_opd_at hu h5 e]
                  exact q_at hf h q
              · rw [tk_sign hp.1 (by decide : ((37 : Int32)).toInt = 37)] at h7
                have h7' : K t = 5 ∧ W t = 37 := Classical.byContradiction (fun hn => h7 hn)
                obtain ⟨v1, n1, sl1, SH1, FI1, FL1, FR1, hc, v2, n2, sl2, SH2, FI2, FL2, FR2, hd, h⟩ := h
                have q := op_reg hc hS hp hg
                by_cases hok : K (t + 1) = 3 ∧ W (t + 1) ≤ 31
                · rw [if_pos hok] at q
                  have e : lc_at K W (decide (f_top S < 6)) t = some ((if (decide (f_top S < 6) && lc_ad K W (t + 2)) = true then t + 2 + 2 else t + 2), (112 + W (t + 1)) :: lc_s 9 (if (decide (f_top S < 6) && lc_ad K W (t + 2)) = true then lc_sg K W (t + 2) else 0)) := by
                    unfold lc_at
                    rw [if_neg h6, if_neg (by omega), if_neg (by omega)]
                    have hbs : lc_bs K W t = some (t + 2, 112 + W (t + 1)) := by unfold lc_bs; rw [if_pos h7', if_pos hok]
                    rw [hbs]
                    dsimp only
                    split <;> rfl
                  rw [f_opd_at hu h5 e]
                  exact q_at hd h q
                · rw [if_neg hok] at q
                  have e : f_opd K W t S o B = none := by
                    unfold f_opd
                    rw [if_neg hu, if_neg h5]
                    unfold lc_at
                    rw [if_neg h6, if_neg (by omega), if_neg (by omega)]
                    have hbs : lc_bs K W t = none := by unfold lc_bs; rw [if_pos h7', if_neg hok]
                    rw [hbs]
                  rw [e]
                  obtain ⟨-, rfl⟩ := h
                  exact (kX12_finished hd).2.2.2.2.2.2 q
          · rw [tk_sign hp.1 (by decide : ((40 : Int32)).toInt = 40)] at h5
            have h5' : K t = 5 ∧ W t = 40 := Classical.byContradiction (fun hn => h5 hn)
            obtain ⟨v1, n1, sl1, SH1, FI1, FL1, FR1, hc, v2, n2, sl2, SH2, FI2, FL2, FR2, hd, h⟩ := h
            obtain ⟨rfl, rfl⟩ := h
            unfold f_opd
            rw [if_neg hu, if_pos h5']
            rcases p_openlater (y := []) hS hc hd hp ht (Or.inr em1) (fun h => absurd h (by rw [em1]; decide)) with ⟨g1, g2⟩ | ⟨g1, g2⟩
            · rw [if_pos g1]
              exact g2
            · rw [if_neg g1]
              rw [em1] at g2
              exact ⟨g2, fun h => (Bool.noConfusion h), by simp⟩
        · rw [tk_word hp.1 (by decide : ((7 : Int32)).toInt = 7)] at h4
          have h4' : K t = 2 ∧ W t = 7 := Classical.byContradiction (fun hn => h4 hn)
          exact un (by simp [lc_uy, h4'.1, h4'.2]) h
    · rw [tk_sign hp.1 (by decide : ((126 : Int32)).toInt = 126)] at h2
      have h2' : K t = 5 ∧ W t = 126 := Classical.byContradiction (fun hn => h2 hn)
      exact un (by simp [lc_uy, h2'.1, h2'.2]) h
  · rw [tk_sign hp.1 (by decide : ((45 : Int32)).toInt = 45)] at h1
    have h1' : K t = 5 ∧ W t = 45 := Classical.byContradiction (fun hn => h1 hn)
    exact un (by simp [lc_uy, h1'.1, h1'.2]) h
end OP
