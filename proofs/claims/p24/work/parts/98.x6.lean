/-! operand and operator do what f_opd and f_opr say. -/
def tk_rg (K W : Nat → Int) : Prop := ∀ i, (K i = 3 → 0 ≤ W i ∧ W i ≤ 999999999999999999) ∧ (K i = 4 → 1 ≤ W i ∧ W i ≤ 8)
def q_opd (K W : Nat → Int) (o0 : Int) (s : hS) (v : Int32) (r : Option f_St) : Prop := match r with
  | none => (s.2.2.2.1 121 69).toInt ≠ 0
  | some (t1, w, S1, o1, B1) => p_vw K W o0 s.2.2.2.1 s.2.2.2.2.1 t1 S1 o1 B1 ∧ (w = false → f_top S1 ≠ 9) ∧ (v.toInt = 0 ↔ w = true)
section OD
variable {K W : Nat → Int} {o0 : Int} {n sl : Nat} {SH : Nat → Nat × Nat} {FI : Nat → Nat → Int32} {FL : Nat → Nat → Int64} {FR : Nat → Nat → Option Nat} {t : Nat} {S : List f_E} {o : Int} {B : List Int} {s : hS}
theorem tk_lt {i : Int32} {z : Nat} (hS : h_S n SH) (h : p_in i (SH 149).2) (hi : i.toInt = z) : z < 1002 := by
  have h2 := h.2
  rw [s149 hS] at h2
  have : ((1002 : Nat) : Int) = 1002 := rfl
  omega
theorem tk_lt2 {i : Int32} {z : Nat} (hS : h_S n SH) (h : p_in i (SH 150).2) (hi : i.toInt = z) : z < 1002 := by
  have h2 := h.2
  rw [s150 hS] at h2
  have : ((1002 : Nat) : Int) = 1002 := rfl
  omega
theorem op_un {c : Int32} {v1 v2 : Unit} {v : Int32} {n1 sl1 n2 sl2 : Nat} {SH1 SH2 : Nat → Nat × Nat} {FI1 FI2 : Nat → Nat → Int32} {FL1 FL2 : Nat → Nat → Int64} {FR1 FR2 : Nat → Nat → Option Nat} (hS : h_S n SH) (hp : p_vw K W o0 FI FL t S o B) (ht : t < 1002) (h1 : RX12_opens n sl SH FI FL FR v1 (n1, sl1, SH1, FI1, FL1, FR1)) (h2 : RX12_later c 9 n1 sl1 SH1 FI1 FL1 FR1 v2 (n2, sl2, SH2, FI2, FL2, FR2)) (h3 : P_ret (0 : Int32) (n2, sl2, SH2, FI2, FL2, FR2) v s) (hy : lc_un (K t) (W t) = w_by c.toInt) (hc : 0 ≤ c.toInt ∧ c.toInt < 512) : q_opd K W o0 s v (if 12 ≤ o then none else some (t + 1, true, (9, lc_un (K t) (W t), 0, 0) :: S, o + 1, B)) := by
  have e9 : ((9 : Int32)).toInt = 9 := by decide
  obtain ⟨rfl, rfl⟩ := h3
  rcases p_openlater (y := lc_un (K t) (W t)) hS h1 h2 hp ht (Or.inl e9) (fun _ => ⟨hy, hc.1, hc.2, fun h => absurd e9 h⟩) with ⟨g1, g2⟩ | ⟨g1, g2⟩
  · rw [if_pos g1]
    exact g2
  · rw [if_neg g1]
    rw [e9] at g2
    exact ⟨g2, fun h => (Bool.noConfusion h), by simp⟩
theorem op_40 {v : Int32} (h : RX12_operand_40 n sl SH FI FL FR v s) (hS : h_S n SH) (hp : p_vw K W o0 FI FL t S o B) (hg : tk_rg K W) (hu : lc_uy (K t) (W t) = true) : q_opd K W o0 s v (if 12 ≤ o then none else some (t + 1, true, (9, lc_un (K t) (W t), 0, 0) :: S, o + 1, B)) := by
  have c4 : ((4 : Int32)).toInt = 4 := by decide
  have c8 : ((8 : Int32)).toInt = 8 := by decide
  have c45 : ((45 : Int32)).toInt = 45 := by decide
  have hu2 : K t = 4 ∨ (K t = 5 ∧ (W t = 45 ∨ W t = 126)) ∨ (K t = 2 ∧ W t = 7) := by simpa [lc_uy] using hu
  obtain ⟨hp0, h⟩ := h
  have ht := tk_lt2 hS hp0 (tk_n hp.1)
  have hW : (FL 150 (FI 121 68).toInt.toNat).toInt = W t := by rw [tk_i hp.1, tk_W hp.1]
  have hK : (FI 149 (FI 121 68).toInt.toNat).toInt = K t := by rw [tk_i hp.1, tk_K hp.1]
  rcases h with ⟨h1, h⟩ | ⟨h1, h⟩
  · rw [tk_word hp.1 (by decide : ((7 : Int32)).toInt = 7)] at h1
    obtain ⟨-, h⟩ := h
    rcases h with ⟨h2, h⟩ | ⟨h2, h⟩
    · rw [hK, c4] at h2
      have hr := (hg t).2 h2
      have hW2 := l_2i hW (by omega) (by omega)
      rcases h with ⟨h3, h⟩ | ⟨h3, h⟩
      · obtain ⟨v4, n4, sl4, SH4, FI4, FL4, FR4, hc, v5, n5, sl5, SH5, FI5, FL5, FR5, hd, h⟩ := h
        rw [hW2, c8] at h3
        exact op_un hS hp ht hc hd h (by rw [h2, h3]; decide) (by decide)
      · obtain ⟨v4, n4, sl4, SH4, FI4, FL4, FR4, hc, v5, n5, sl5, SH5, FI5, FL5, FR5, hd, h⟩ := h
        rw [hW2, c8] at h3
        have e : (((256 : Int32)) + ((FL 150 (FI 121 68).toInt.toNat).toInt32)).toInt = 256 + W t := i_add (by decide : ((256 : Int32)).toInt = 256) hW2 (by omega) (by omega)
        refine op_un hS hp ht hc hd h ?_ (by rw [e]; omega)
        rw [e, w_by, if_neg (by omega), h2]
        simp [lc_un, h3]
        omega
    · rw [hK, c4] at h2
      have hk : K t = 5 ∧ (W t = 45 ∨ W t = 126) := by
        rcases hu2 with h | h | h
        · exact absurd h h2
        · exact h
        · exact absurd h h1
      have hW2 := l_2i hW (by omega) (by omega)
      rcases h with ⟨h3, h⟩ | ⟨h3, h⟩
      · obtain ⟨v4, n4, sl4, SH4, FI4, FL4, FR4, hc, v5, n5, sl5, SH5, FI5, FL5, FR5, hd, h⟩ := h
        rw [hW2, c45] at h3
        exact op_un hS hp ht hc hd h (by rw [hk.1, h3]; decide) (by decide)
      · obtain ⟨v4, n4, sl4, SH4, FI4, FL4, FR4, hc, v5, n5, sl5, SH5, FI5, FL5, FR5, hd, h⟩ := h
        rw [hW2, c45] at h3
        have h126 : W t = 126 := by omega
        exact op_un hS hp ht hc hd h (by rw [hk.1, h126]; decide) (by decide)
  · rw [tk_word hp.1 (by decide : ((7 : Int32)).toInt = 7)] at h1
    have hk : K t = 2 ∧ W t = 7 := Classical.byContradiction (fun hn => h1 hn)
    obtain ⟨v4, n4, sl4, SH4, FI4, FL4, FR4, hc, v5, n5, sl5, SH5, FI5, FL5, FR5, hd, h⟩ := h
    exact op_un hS hp ht hc hd h (by rw [hk.1, hk.2]; decide) (by decide)
/-- combined: + or - and a NUMBER alone -/
theorem p_comb {a1 : Int32} {x : Int64} (h : RX12_combined a1 n sl SH FI FL FR x s) (hS : h_S n SH) (ha : a1.toInt = t) (hp : p_vw K W o0 FI FL t S o B) (hg : tk_rg K W) : p_vw K W o0 s.2.2.2.1 s.2.2.2.2.1 (if (decide (f_top S < 6) && lc_ad K W t) = true then t + 2 else t) S o B ∧ x.toInt = (if (decide (f_top S < 6) && lc_ad K W t) = true then lc_sg K W t else 0) := by
  have c6 : ((6 : Int32)).toInt = 6 := by decide
  have c0 : ((0 : Int64)).toInt = 0 := by decide
  have c43 : ((43 : Int64)).toInt = 43 := by decide
  have ht2 := hp.1.2.2.2
  have ha1 : (a1 + (1 : Int32)).toInt = ((t + 1 : Nat) : Int) := by
    rw [i_add ha (by decide : ((1 : Int32)).toInt = 1) (by omega) (by omega)]; omega
  rcases h with ⟨h1, h⟩ | ⟨h1, h⟩
  · rw [r_tops hp.2.2.1, c6] at h1
    rcases h with ⟨h2, h⟩ | ⟨h2, h⟩
    · exact absurd h2 (by decide)
    · rcases h with ⟨h3, h⟩ | ⟨h3, h⟩
      · rw [tk_adds hp.1 ha] at h3
        obtain ⟨rfl, rfl⟩ := h
        have e : lc_ad K W t = false := by
          unfold lc_ad
          rw [decide_eq_false h3, Bool.false_and]
        rw [e, Bool.and_false]
        exact ⟨hp, c0⟩
      · rw [tk_adds hp.1 ha] at h3
        have h3' : K t = 5 ∧ (W t = 43 ∨ W t = 45) := Classical.byContradiction (fun hn => h3 hn)
        rcases h with ⟨h4, h⟩ | ⟨h4, h⟩
        · rw [tk_alone hp.1 ha1 (by omega)] at h4
          obtain ⟨rfl, rfl⟩ := h
          have e : lc_ad K W t = false := by
            unfold lc_ad
            rw [h4, Bool.and_false]
          rw [e, Bool.and_false]
          exact ⟨hp, c0⟩
        · rw [tk_alone hp.1 ha1 (by omega)] at h4
          have h4' : lc_al K W (t + 1) = true := by
            cases e : lc_al K W (t + 1) with
            | true => rfl
            | false => exact absurd e h4
          have e : lc_ad K W t = true := by
            unfold lc_ad
            rw [decide_eq_true h3', h4']
            rfl
          have hal : K (t + 1) = 3 ∧ au_bn (K (t + 1 + 1)) (W (t + 1 + 1)) ≠ 7 := by simpa [lc_al] using h4'
          have hr := (hg (t + 1)).1 hal.1
          rw [e, decide_eq_true h1]
          simp only [Bool.and_self, if_true]
          obtain ⟨hpin, h⟩ := h
          have ht := tk_lt2 hS hpin ha
          have hW : (FL 150 a1.toInt.toNat).toInt = W t := by rw [show a1.toInt.toNat = t by omega, tk_W hp.1]
          have hW1 : (FL 150 (a1 + (1 : Int32)).toInt.toNat).toInt = W (t + 1) := by rw [show (a1 + (1 : Int32)).toInt.toNat = t + 1 by omega, tk_W hp.1]
          have hx2 : (a1 + (2 : Int32)).toInt = ((t + 2 : Nat) : Int) := by
            rw [i_add ha (by decide : ((2 : Int32)).toInt = 2) (by omega) (by omega)]; omega
          rcases h with ⟨h5, h⟩ | ⟨h5, h⟩
          · obtain ⟨-, rfl, rfl⟩ := h
            rw [hW, c43] at h5
            exact ⟨p_ti hp hx2 (by omega), by rw [hW1, lc_sg, if_pos h5]⟩
          · obtain ⟨-, rfl, rfl⟩ := h
            rw [hW, c43] at h5
            refine ⟨p_ti hp hx2 (by omega), ?_⟩
            rw [lc_sg, if_neg h5, Int64.toInt_neg, hW1, l_bm (by omega) (by omega)]
  · rw [r_tops hp.2.2.1, c6] at h1
    rw [decide_eq_false h1, Bool.false_and]
    rcases h with ⟨h2, h⟩ | ⟨h2, h⟩
    · obtain ⟨rfl, rfl⟩ := h
      exact ⟨hp, c0⟩
    · exact absurd (show ((0 : Int32)).toInt = 0 by decide) h2
/-- the number behind % r and fb, and what waits -/
theorem p_bsf {a1 : Int32} {x : Int64} {v1 : Unit} {n1 sl1 n2 sl2 : Nat} {SH1 SH2 : Nat → Nat × Nat} {FI1 FI2 : Nat → Nat → Int32} {FL1 FL2 : Nat → Nat → Int64} {FR1 FR2 : Nat → Nat → Option Nat} (hS : h_S n SH) (h1 : RX12_combined a1 n sl SH FI FL FR x (n1, sl1, SH1, FI1, FL1, FR1)) (h2 : RX12_signed x n1 sl1 SH1 FI1 FL1 FR1 v1 (n2, sl2, SH2, FI2, FL2, FR2)) (ha : a1.toInt = t) (hp : p_vw K W o0 FI FL t S o B) (hg : tk_rg K W) : p_vw K W o0 FI2 FL2 (if (decide (f_top S < 6) && lc_ad K W t) = true then t + 2 else t) S o (B ++ lc_s 9 (if (decide (f_top S < 6) && lc_ad K W t) = true then lc_sg K W t else 0)) := by
  obtain ⟨q1, q2⟩ := p_comb h1 hS ha hp hg
  have he := em_signed h2
  rw [q2] at he
  exact p_em (a := (n1, sl1, SH1, FI1, FL1, FR1)) (b := (n2, sl2, SH2, FI2, FL2, FR2)) q1 (kX12_signed h2) he (by decide)
end OD
