/-! operator, to its end; chosen. -/
section OQ
variable {K W : Nat → Int} {o0 : Int} {n sl : Nat} {SH : Nat → Nat × Nat} {FI : Nat → Nat → Int32} {FL : Nat → Nat → Int64} {FR : Nat → Nat → Option Nat} {t : Nat} {S : List f_E} {o : Int} {B : List Int} {s : hS}
theorem op_ask {v : Int32} {v1 v2 v3 v4 v5 : Unit} {n1 sl1 n2 sl2 n3 sl3 n4 sl4 n5 sl5 : Nat} {SH1 SH2 SH3 SH4 SH5 : Nat → Nat × Nat} {FI1 FI2 FI3 FI4 FI5 : Nat → Nat → Int32} {FL1 FL2 FL3 FL4 FL5 : Nat → Nat → Int64} {FR1 FR2 FR3 FR4 FR5 : Nat → Nat → Option Nat} (hS : h_S n SH)
    (h1 : RX12_reduced 1 n sl SH (h_up FI 121 91 0) FL FR v1 (n1, sl1, SH1, FI1, FL1, FR1)) (h2 : RX12_emit 40 n1 sl1 SH1 FI1 FL1 FR1 v2 (n2, sl2, SH2, FI2, FL2, FR2)) (h3 : RX12_emits 0 2 n2 sl2 SH2 FI2 FL2 FR2 v3 (n3, sl3, SH3, FI3, FL3, FR3)) (h4 : RX12_opens n3 sl3 SH3 FI3 FL3 FR3 v4 (n4, sl4, SH4, FI4, FL4, FR4)) (h5 : RX12_later 0 (-2) n4 sl4 SH4 FI4 FL4 FR4 v5 (n5, sl5, SH5, FI5, FL5, FR5)) (h6 : P_ret (1 : Int32) (n5, sl5, SH5, (h_up FI5 167 ((FI5 121 90) - ((1 : Int32))).toInt.toNat (FI2 121 73)), FL5, FR5) v s)
    (hp : p_vw K W o0 FI FL t S o B) (ht : t < 1002) (h9 : f_top S ≠ 9) : q_opr K W o0 s v (if 12 ≤ o then none else some (.inl (t + 1, true, (-2, [], (f_pop 1 S B).2.length + 1, 0) :: (f_pop 1 S B).1, o + 1, (f_pop 1 S B).2 ++ [40, 0, 0]))) := by
  have hp1 := p_fl (k := 91) (x := 0) hp (by decide) (by decide) (by decide) (by decide) (by decide)
  obtain ⟨q1, q2, q3⟩ := p_red h1 (by decide : ((1 : Int32)).toInt = 1) (by decide) hp1 h9
  have k1 := kX12_reduced h1
  have k2 := kX12_emit h2
  have k3 := kX12_emits h3
  have k5 := kX12_later h5
  have q4 := p_em (a := (n1, sl1, SH1, FI1, FL1, FR1)) (b := (n2, sl2, SH2, FI2, FL2, FR2)) q1 k2 (em_emit (b := 40) h2 (by decide)) (by decide)
  have e2 := em_emits (m := 2) h3 (by decide) (by decide)
  have e02 : lc_by ((0 : Int64)).toInt 2 = [0, 0] := by decide
  rw [e02] at e2
  have q5 := p_em (a := (n2, sl2, SH2, FI2, FL2, FR2)) (b := (n3, sl3, SH3, FI3, FL3, FR3)) q4 k3 e2 (by decide)
  rw [List.append_assoc] at q5
  have h73 : FI2 121 73 = Int32.ofNat ((f_pop 1 S B).2.length + 1) := by
    refine (show FI2 121 73 = _ from q4.2.2.1.2.2.2.2.2.2.1).trans ?_
    rw [List.length_append]
    rfl
  have h91 : (FI3 121 91).toInt = 0 := by
    rw [show FI3 121 91 = FI2 121 91 from kq_fld k3 (by decide), show FI2 121 91 = FI1 121 91 from kq_fld k2 (by decide), show FI1 121 91 = (h_up FI 121 91 0) 121 91 from kq_fld k1 (by decide), h_up_eq]
    decide
  have ho := q5.2.2.2
  have hop := f_op_0 (f_pop 1 S B).1
  have hS4 : h_S n3 SH3 := by
    rw [show n3 = n2 from k3.1, show n2 = n1 from k2.1, show n1 = n from k1.1, show SH3 = SH2 from k3.2.2.1, show SH2 = SH1 from k2.2.2.1, show SH1 = SH from k1.2.2.1]
    exact hS
  obtain ⟨rfl, rfl⟩ := h6
  rcases p_opens h4 q5.1 (by omega) ho.1 ho.2.2.2 (by have := ho.2.1; have := ho.2.2.1; omega) with ⟨g1, g2⟩ | ⟨g1, g2⟩
  · rw [if_pos (by omega)]
    show ((h_up FI5 167 ((FI5 121 90) - ((1 : Int32))).toInt.toNat (FI2 121 73)) 121 69).toInt ≠ 0
    rw [h_up_nc (by decide), show FI5 121 69 = FI4 121 69 from kq_fld k5 (by decide)]
    exact g2
  · rw [if_neg (by omega)]
    cases g2
    obtain ⟨g3, g4, -, h5⟩ := h5
    cases h5
    have hr := r_fl (k := 68) (x := FI3 121 68 + 1) (r_fl (k := 71) (x := FI3 121 71 + 1) q5.2.2.1 (by decide) (by decide)) (by decide) (by decide)
    have hlt : (f_pop 1 S B).1.length < 256 := by
      have e := r_vw_n hr
      have g5 := g3.2
      dsimp only at e g5
      rw [s165 hS4] at g5
      have : (((256 : Nat)) : Int) = 256 := rfl
      omega
    have hq := r_ask (c := 0) (p := (f_pop 1 S B).2.length + 1) hr hlt q2 (by rw [List.length_append]; simp)
    have e90 : ∀ F : Nat → Nat → Int32, ∀ x : Int32, h_up F 121 90 x 121 90 = x := fun F x => h_up_eq
    refine ⟨by decide, ⟨⟨?_, q5.1.2.1, ?_, by omega⟩, ?_, ?_, ?_⟩, fun h => Bool.noConfusion h, ?_⟩
    · try dsimp only
      rw [h_up_nc (by decide), h_up_nc (by decide), h_up_nc (by decide), h_up_nc (by decide), h_up_nc (by decide), h_up_nc (by decide)]
      exact q5.1.1
    · try dsimp only
      rw [h_up_nc (by decide), h_up_x (by decide), h_up_nc (by decide), h_up_nc (by decide), h_up_eq]
      exact i_eqv (by rw [tk_n1 q5.1, i_lit (by omega)])
    · try dsimp only
      rw [h_up_nc (by decide), h_up_x (by decide), h_up_nc (by decide), h_up_nc (by decide), h_up_x (by decide), h_up_x (by decide)]
      exact q5.2.1
    · try dsimp only
      rw [e90, h73]
      exact hq
    · refine ⟨?_, ?_, ho.2.2.1, by omega⟩
      · try dsimp only
        rw [h_up_nc (by decide), h_up_x (by decide), h_up_nc (by decide), h_up_nc (by decide), h_up_x (by decide), h_up_eq]
        rw [i_add ho.1 (by decide : ((1 : Int32)).toInt = 1) (by have := ho.2.1; have := ho.2.2.1; omega) (by omega)]
      · rw [f_op, if_neg (by show ¬ ((1 : Int) ≤ -2 ∧ (-2 : Int) ≤ 7); decide)]
        have := ho.2.1
        omega
    · try dsimp only
      rw [h_up_nc (by decide), h_up_x (by decide), h_up_nc (by decide), h_up_nc (by decide), h_up_x (by decide), h_up_x (by decide)]
      exact ⟨fun _ => rfl, fun _ => h91⟩
theorem r_else {FI : Nat → Nat → Int32} {e : f_E} {S : List f_E} {B : List Int} (h : r_vw FI (e :: S) B) (h2 : e.1 = -2) : r_vw (h_up (h_up FI 168 ((FI 121 90) - ((1 : Int32))).toInt.toNat (FI 121 73)) 166 ((FI 121 90) - ((1 : Int32))).toInt.toNat (-3)) ((-3, [], e.2.2.1, B.length) :: S) B := by
  rw [r_ix h]
  have hw := h.2.2.1
  refine ⟨by rw [h_up_nc (by decide), h_up_nc (by decide)]; exact h.1, h.2.1, ⟨⟨?_, ?_, ?_, ?_⟩, ?_⟩, ⟨fun _ _ => h.2.2.2.1.1 (by omega) (by omega), h.2.2.2.1.2⟩, ?_, ?_, e_vw_c (e_vw_c h.2.2.2.2.2.2 (by decide) (by decide)) (by decide) (by decide)⟩
  · rw [h_up_eq]; exact (by decide : ((-3 : Int32)).toInt = -3)
  · intro h1
    exact absurd (show (1 : Int) ≤ -3 from h1) (by decide)
  · intro _
    rw [h_up_nc (by decide), h_up_nc (by decide)]
    exact hw.1.2.2.1 (Or.inl h2)
  · intro _
    rw [h_up_nc (by decide), h_up_eq]
    exact h.2.2.2.2.2.2.1
  · exact w_vw_cg hw.2 (fun c i h3 h4 h5 => by rw [h_up_x (by omega), h_up_x (by omega)])
  · intro x hx
    rcases List.mem_cons.mp hx with rfl | hx
    · exact Or.inr (Or.inr (Or.inr (Or.inl rfl)))
    · exact h.2.2.2.2.1 x (List.mem_cons_of_mem _ hx)
  · intro x hx
    rcases List.mem_cons.mp hx with rfl | hx
    · exact ⟨fun h1 => absurd (show (-3 : Int) = -2 from h1) (by decide), fun _ => ⟨(h.2.2.2.2.2.1 e (by simp)).1 h2, Nat.le_refl _⟩⟩
    · exact h.2.2.2.2.2.1 x (List.mem_cons_of_mem _ hx)
theorem op_120 {v : Int32} (h : RX12_ended_120 n sl SH FI FL FR v s) (hp : p_vw K W o0 FI FL t S o B) : match S with
    | [] => v.toInt = 0 ∧ p_vw K W o0 s.2.2.2.1 s.2.2.2.2.1 t [] o B
    | _ :: _ => (s.2.2.2.1 121 69).toInt ≠ 0 := by
  have hn := r_vw_n hp.2.2.1
  cases S with
  | nil =>
    rcases h with ⟨h1, h⟩ | ⟨h1, h⟩
    · rw [hn] at h1
      exact absurd h1 (by simp)
    · obtain ⟨rfl, rfl⟩ := h
      exact ⟨by decide, hp⟩
  | cons e S =>
    rcases h with ⟨h1, h⟩ | ⟨h1, h⟩
    · obtain ⟨v1, n1, sl1, SH1, FI1, FL1, FR1, hc, h⟩ := h
      obtain ⟨rfl, rfl⟩ := h
      exact f_fault hc (by decide)
    · rw [hn, List.length_cons] at h1
      exact absurd (by omega) h1
theorem op_62 {v : Int32} (h : RX12_ended_62 n sl SH FI FL FR v s) (hp : p_vw K W o0 FI FL t S o B) (ht : t < 1002) (hno : ∀ e r, S = e :: r → ¬ (K t = 5 ∧ W t = 58 ∧ e.1 = -2)) : q_opr K W o0 s v (f_end K W t (S, o, B)) := by
  have htp := r_tops (SH := SH) (FL := FL) (FR := FR) hp.2.2.1
  have e120 : RX12_ended_120 n sl SH FI FL FR v s → (∀ e r, S = e :: r → ¬ (K t = 5 ∧ W t = 41 ∧ e.1 = -1)) → q_opr K W o0 s v (f_end K W t (S, o, B)) := by
    intro h h41
    have q := op_120 h hp
    cases S with
    | nil => exact q
    | cons e S =>
      rw [f_end_c, if_neg (hno e S rfl), if_neg (h41 e S rfl)]
      exact q
  rcases h with ⟨h1, h⟩ | ⟨h1, h⟩
  · rw [tk_sign hp.1 (by decide : ((41 : Int32)).toInt = 41)] at h1
    exact e120 h (fun e r _ hh => h1 ⟨hh.1, hh.2.1⟩)
  · rw [tk_sign hp.1 (by decide : ((41 : Int32)).toInt = 41)] at h1
    have h1' : K t = 5 ∧ W t = 41 := Classical.byContradiction (fun hn => h1 hn)
    rcases h with ⟨h2, h⟩ | ⟨h2, h⟩
    · rw [htp] at h2
      cases S with
      | nil => exact absurd h2 (by decide)
      | cons e S =>
        have he1 : e.1 = -1 := h2
        obtain ⟨v7, n7, sl7, SH7, FI7, FL7, FR7, hc, h⟩ := h
        obtain ⟨rfl, rfl⟩ := h
        have ho := o_pop hp.2.2.2 (by omega)
        have hp1 : p_vw K W o0 (h_up (h_up (h_up FI 121 90 ((FI 121 90) - ((1 : Int32)))) 121 71 ((FI 121 71) - ((1 : Int32)))) 121 68 ((FI 121 68) + ((1 : Int32)))) FL (t + 1) S (o - 1) B := by
          refine ⟨⟨?_, hp.1.2.1, ?_, by omega⟩, ?_, r_fl (r_fl (r_pop hp.2.2.1) (by decide) (by decide)) (by decide) (by decide), ?_, ho.2⟩
          · rw [h_up_nc (by decide), h_up_nc (by decide), h_up_nc (by decide)]; exact hp.1.1
          · rw [h_up_eq]; exact i_eqv (by rw [tk_n1 hp.1, i_lit (by omega)])
          · rw [h_up_x (by decide), h_up_x (by decide), h_up_x (by decide)]; exact hp.2.1
          · rw [h_up_x (by decide), h_up_eq]; exact ho.1
        obtain ⟨q1, q2⟩ := p_fin hc hp1
        rw [f_end_c, if_neg (hno e S rfl), if_pos ⟨h1'.1, h1'.2, he1⟩]
        refine ⟨by decide, p_fl (k := 91) (x := 1) q1 (by decide) (by decide) (by decide) (by decide) (by decide), fun _ => q2, ?_⟩
        show (h_up FI7 121 91 1 121 91).toInt = 0 ↔ _
        rw [h_up_eq]
        exact ⟨fun h => absurd h (by decide), fun h => Bool.noConfusion h⟩
    · rw [htp] at h2
      exact e120 h (fun e r he hh => h2 (by rw [he]; exact hh.2.2.trans (by decide)))
theorem op_ended {v v2 : Int32} {n2 sl2 : Nat} {SH2 : Nat → Nat × Nat} {FI2 : Nat → Nat → Int32} {FL2 : Nat → Nat → Int64} {FR2 : Nat → Nat → Option Nat} (h : RX12_ended n sl SH (h_up FI 121 91 0) FL FR v2 (n2, sl2, SH2, FI2, FL2, FR2)) (h2 : P_ret v2 (n2, sl2, SH2, FI2, FL2, FR2) v s) (hp : p_vw K W o0 FI FL t S o B) (ht : t < 1002) (h9 : f_top S ≠ 9) : q_opr K W o0 s v (f_end K W t (f_all S o B)) := by
  have hp1 := p_fl (k := 91) (x := 0) hp (by decide) (by decide) (by decide) (by decide) (by decide)
  obtain ⟨rfl, e2⟩ := h2
  rw [← e2] at h
  clear e2
  obtain ⟨v0, n0, sl0, SH0, FI0, FL0, FR0, hc, h⟩ := h
  obtain ⟨q1, q2, q3⟩ := p_all hc hp1 h9
  have k0 := kX12_reducedAll hc
  have h91 : (FI0 121 91).toInt = 0 := by
    rw [show FI0 121 91 = (h_up FI 121 91 0) 121 91 from kq_fld k0 (by decide), h_up_eq]
    decide
  have htp := r_tops (SH := SH0) (FL := FL0) (FR := FR0) q1.2.2.1
  generalize f_all S o B = A at q1 q2 q3 htp
  obtain ⟨S', o', B'⟩ := A
  dsimp only at q1 q2 q3 htp
  rcases h with ⟨h1, h⟩ | ⟨h1, h⟩
  · rw [tk_sign q1.1 (by decide : ((58 : Int32)).toInt = 58)] at h1
    exact op_62 h q1 ht (fun e r _ hh => h1 ⟨hh.1, hh.2.1⟩)
  · rw [tk_sign q1.1 (by decide : ((58 : Int32)).toInt = 58)] at h1
    have h1' : K t = 5 ∧ W t = 58 := Classical.byContradiction (fun hn => h1 hn)
    rcases h with ⟨h2, h⟩ | ⟨h2, h⟩
    · rw [htp] at h2
      cases S' with
      | nil => exact absurd h2 (by decide)
      | cons e S' =>
        have he2 : e.1 = -2 := h2
        obtain ⟨-, -, rfl, rfl⟩ := h
        have hr := r_fl (k := 68) (x := FI0 121 68 + 1) (r_else q1.2.2.1 he2) (by decide) (by decide)
        obtain ⟨o1, o2, o3, o4⟩ := q1.2.2.2
        rw [f_op, if_neg (by omega)] at o2
        rw [f_end_c, if_pos ⟨h1'.1, h1'.2, he2⟩]
        refine ⟨by decide, ⟨⟨?_, q1.1.2.1, ?_, by omega⟩, ?_, hr, ?_, ?_, o3, o4⟩, fun h => Bool.noConfusion h, ?_⟩
        · try dsimp only
          rw [h_up_nc (by decide), h_up_nc (by decide), h_up_nc (by decide)]; exact q1.1.1
        · try dsimp only
          rw [h_up_eq]; exact i_eqv (by rw [tk_n1 q1.1, i_lit (by omega)])
        · try dsimp only
          rw [h_up_x (by decide), h_up_nc (by decide), h_up_nc (by decide)]; exact q1.2.1
        · try dsimp only
          rw [h_up_x (by decide), h_up_nc (by decide), h_up_nc (by decide)]; exact o1
        · rw [f_op, if_neg (by show ¬ ((1 : Int) ≤ -3 ∧ (-3 : Int) ≤ 7); decide)]; omega
        · try dsimp only
          rw [h_up_x (by decide), h_up_nc (by decide), h_up_nc (by decide)]
          exact ⟨fun _ => rfl, fun _ => h91⟩
    · rw [htp] at h2
      exact op_62 h q1 ht (fun e r he hh => h2 (by rw [he]; exact hh.2.2.trans (by decide)))
theorem op_operator {v : Int32} (h : RX12_operator n sl SH FI FL FR v s) (hS : h_S n SH) (hp : p_vw K W o0 FI FL t S o B) (hg : tk_rg K W) (h9 : f_top S ≠ 9) : q_opr K W o0 s v (f_opr K W t S o B) := by
  have cm1 : ((-1 : Int32)).toInt = -1 := by decide
  have hp1 := p_fl (k := 91) (x := 0) hp (by decide) (by decide) (by decide) (by decide) (by decide)
  have hK : (FI 149 (FI 121 68).toInt.toNat).toInt = K t := by rw [tk_i hp.1, tk_K hp.1]
  have hW : (FL 150 (FI 121 68).toInt.toNat).toInt = W t := by rw [tk_i hp.1, tk_W hp.1]
  have hrg := au_bn_rg (K t) (W t)
  have hop := lc_op_rg (k := K t) (w := W t)
  obtain ⟨hp0, -, h⟩ := h
  have ht := tk_lt hS hp0 (tk_n hp.1)
  rcases h with ⟨h7, h⟩ | ⟨h7, h⟩
  · rw [tk_mul, hK, hW, cm1] at h7
    have n7 : au_bn (K t) (W t) ≠ 7 := by intro e; rw [if_pos e] at h7; omega
    rcases h with ⟨h6, h⟩ | ⟨h6, h⟩
    · rw [tk_adds hp1.1 (tk_n hp.1)] at h6
      have n6 : au_bn (K t) (W t) ≠ 6 := fun e => h6 (au_bn_6.mp e)
      obtain ⟨-, -, h⟩ := h
      rcases h with ⟨h5, h⟩ | ⟨h5, h⟩
      · rw [tk_shf, hK, hW, cm1] at h5
        have n5 : au_bn (K t) (W t) ≠ 5 := by intro e; rw [if_pos e] at h5; omega
        obtain ⟨-, -, h⟩ := h
        rcases h with ⟨h4, h⟩ | ⟨h4, h⟩
        · rw [tk_cmp, hK, hW, cm1] at h4
          have n4 : au_bn (K t) (W t) ≠ 4 := by intro e; rw [if_pos e] at h4; omega
          rcases h with ⟨h3, h⟩ | ⟨h3, h⟩
          · rw [tk_sign hp1.1 (by decide : ((38 : Int32)).toInt = 38)] at h3
            have n3 : au_bn (K t) (W t) ≠ 3 := fun e => h3 (au_bn_3.mp e)
            rcases h with ⟨h2, h⟩ | ⟨h2, h⟩
            · rw [tk_sign hp1.1 (by decide : ((94 : Int32)).toInt = 94)] at h2
              have n2 : au_bn (K t) (W t) ≠ 2 := fun e => h2 (au_bn_2.mp e)
              rcases h with ⟨h1, h⟩ | ⟨h1, h⟩
              · rw [tk_sign hp1.1 (by decide : ((124 : Int32)).toInt = 124)] at h1
                have n1 : au_bn (K t) (W t) ≠ 1 := fun e => h1 (au_bn_1.mp e)
                have n0 := au_bn_0 n7 n6 n5 n4 n3 n2 n1
                rcases h with ⟨h0, h⟩ | ⟨h0, h⟩
                · rw [tk_sign hp1.1 (by decide : ((63 : Int32)).toInt = 63)] at h0
                  obtain ⟨v1, m1, sl1, SH1, FI1, FL1, FR1, hc, h⟩ := h
                  have q := op_ended hc h hp ht h9
                  unfold f_opr
                  rw [if_pos n0, if_neg h0]
                  exact q
                · rw [tk_sign hp1.1 (by decide : ((63 : Int32)).toInt = 63)] at h0
                  have h0' : K t = 5 ∧ W t = 63 := Classical.byContradiction (fun hn => h0 hn)
                  obtain ⟨v1, m1, sl1, SH1, FI1, FL1, FR1, hc1, v2, m2, sl2, SH2, FI2, FL2, FR2, hc2, v3, m3, sl3, SH3, FI3, FL3, FR3, hc3, v4, m4, sl4, SH4, FI4, FL4, FR4, hc4, v5, m5, sl5, SH5, FI5, FL5, FR5, hc5, -, h⟩ := h
                  have q := op_ask hS hc1 hc2 hc3 hc4 hc5 h hp ht h9
                  unfold f_opr
                  rw [if_pos n0, if_pos h0']
                  exact q
              · rw [tk_sign hp1.1 (by decide : ((124 : Int32)).toInt = 124)] at h1
                have h1' : K t = 5 ∧ W t = 124 := Classical.byContradiction (fun hn => h1 hn)
                have e := au_bn_1.mpr h1'
                obtain ⟨v1, m1, sl1, SH1, FI1, FL1, FR1, hc, h⟩ := h
                have q := q_bin (C := lc_op (K t) (W t)) hS hc h hp ht h9 (by rw [e]; decide) (by omega) (by rw [h1'.1, h1'.2]; decide) hop
                rw [f_opr_bin (by omega) (by omega) (by omega)]
                exact q
            · rw [tk_sign hp1.1 (by decide : ((94 : Int32)).toInt = 94)] at h2
              have h2' : K t = 5 ∧ W t = 94 := Classical.byContradiction (fun hn => h2 hn)
              have e := au_bn_2.mpr h2'
              obtain ⟨v1, m1, sl1, SH1, FI1, FL1, FR1, hc, h⟩ := h
              have q := q_bin (C := lc_op (K t) (W t)) hS hc h hp ht h9 (by rw [e]; decide) (by omega) (by rw [h2'.1, h2'.2]; decide) hop
              rw [f_opr_bin (by omega) (by omega) (by omega)]
              exact q
          · rw [tk_sign hp1.1 (by decide : ((38 : Int32)).toInt = 38)] at h3
            have h3' : K t = 5 ∧ W t = 38 := Classical.byContradiction (fun hn => h3 hn)
            have e := au_bn_3.mpr h3'
            obtain ⟨v1, m1, sl1, SH1, FI1, FL1, FR1, hc, h⟩ := h
            have q := q_bin (C := lc_op (K t) (W t)) hS hc h hp ht h9 (by rw [e]; decide) (by omega) (by rw [h3'.1, h3'.2]; decide) hop
            rw [f_opr_bin (by omega) (by omega) (by omega)]
            exact q
        · rw [tk_cmp, hK, hW, cm1] at h4
          have e4 : au_bn (K t) (W t) = 4 := Classical.byContradiction (fun hn => h4 (by rw [if_neg hn]))
          obtain ⟨v1, m1, sl1, SH1, FI1, FL1, FR1, hc, h⟩ := h
          have k1 := kX12_reduced hc
          obtain ⟨q1, q2, q3⟩ := p_red hc (by decide : ((5 : Int32)).toInt = 5) (by decide) hp1 h9
          have htp := r_tops (SH := SH1) (FL := FL1) (FR := FR1) q1.2.2.1
          have hS1 : h_S m1 SH1 := by rw [show m1 = n from k1.1, show SH1 = SH from k1.2.2.1]; exact hS
          unfold f_opr
          rw [if_neg (by omega), if_neg (by simp [e4])]
          rcases h with ⟨h8, h⟩ | ⟨h8, h⟩
          · rw [htp] at h8
            rw [if_pos ⟨e4, h8.trans (by decide)⟩]
            obtain ⟨v3, m3, sl3, SH3, FI3, FL3, FR3, hd, h⟩ := h
            exact (kX12_operator_138 h).2.2.2.2.2.2 (f_fault hd (by decide))
          · rw [htp] at h8
            rw [if_neg (fun hh => h8 (hh.2.trans (by decide)))]
            rcases h with ⟨h10, h⟩ | ⟨h10, h⟩
            · obtain ⟨v3, m3, sl3, SH3, FI3, FL3, FR3, hd, h⟩ := h
              have hcv : (fX12_compares (FI 149 (FI 121 68).toInt.toNat) (FL 150 (FI 121 68).toInt.toNat) SH (h_up FI 121 91 ((0 : Int32))) FL FR).toInt = lc_op (K t) (W t) := by rw [tk_cmp, hK, hW, if_pos e4]
              obtain ⟨e1, q⟩ := p_binary hS1 hd q1 ht q2 (by decide : ((4 : Int32)).toInt = 4) (by decide) hcv hop
              rw [f_pop_pop (by decide)] at q
              subst e1
              have k3 := kX12_binary hd
              have h91 : (FI3 121 91).toInt = 0 := by
                rw [show FI3 121 91 = FI1 121 91 from kq_fld k3 (by decide), show FI1 121 91 = (h_up FI 121 91 0) 121 91 from kq_fld k1 (by decide), h_up_eq]
                decide
              rw [e4]
              rcases h with ⟨h11, h⟩ | ⟨h11, h⟩
              · exact absurd h11 (by decide)
              · obtain ⟨rfl, rfl⟩ := h
                exact ⟨by decide, q, fun h => Bool.noConfusion h, fun _ => rfl, fun _ => h91⟩
            · exact absurd q1.2.1 h10
      · rw [tk_shf, hK, hW, cm1] at h5
        have e5 : au_bn (K t) (W t) = 5 := Classical.byContradiction (fun hn => h5 (by rw [if_neg hn]))
        obtain ⟨v1, m1, sl1, SH1, FI1, FL1, FR1, hc, h⟩ := h
        have q := q_bin (C := lc_op (K t) (W t)) hS hc h hp ht h9 (by rw [e5]; decide) (by omega) (by rw [tk_shf, hK, hW, if_pos e5]) hop
        rw [f_opr_bin (by omega) (by omega) (by omega)]
        exact q
    · rw [tk_adds hp1.1 (tk_n hp.1)] at h6
      have h6' : K t = 5 ∧ (W t = 43 ∨ W t = 45) := Classical.byContradiction (fun hn => h6 hn)
      obtain ⟨v1, m1, sl1, SH1, FI1, FL1, FR1, hc, h⟩ := h
      exact op_added hS hc h hp hg ht h9 (au_bn_6.mpr h6')
  · rw [tk_mul, hK, hW, cm1] at h7
    have e7 : au_bn (K t) (W t) = 7 := Classical.byContradiction (fun hn => h7 (by rw [if_neg hn]))
    obtain ⟨v1, m1, sl1, SH1, FI1, FL1, FR1, hc, h⟩ := h
    have q := q_bin (C := lc_op (K t) (W t)) hS hc h hp ht h9 (by rw [e7]; decide) (by omega) (by rw [tk_mul, hK, hW, if_pos e7]) hop
    rw [f_opr_bin (by omega) (by omega) (by omega)]
    exact q
theorem op_chosen_G (hg : tk_rg K W) : ∀ (g : Nat) (l1 : Int32) (n sl : Nat) (SH : Nat → Nat × Nat) (FI : Nat → Nat → Int32) (FL : Nat → Nat → Int64) (FR : Nat → Nat → Option Nat) (v : Unit) (s : hS) (w : Bool) (t : Nat) (S : List f_E) (o : Int) (B : List Int), GX12_chosen_7 g l1 n sl SH FI FL FR v s → h_S n SH → p_vw K W o0 FI FL t S o B → (l1.toInt = 0 ↔ w = false) → (w = false → f_top S ≠ 9) → ((s.2.2.2.1 121 69).toInt ≠ 0 ∧ f_no K W (t, w, S, o, B)) ∨ (∃ t1 o1 B1, p_vw K W o0 s.2.2.2.1 s.2.2.2.2.1 t1 [] o1 B1 ∧ ∃ k, ∀ j, f_run K W (k + j) (t, w, S, o, B) = some (t1, o1, B1)) := by
  intro g
  induction g with
  | zero => intro l1 n sl SH FI FL FR v s w t S o B h; exact h.elim
  | succ g ih =>
    intro l1 n sl SH FI FL FR v s w t S o B h hS hp hw h9
    rcases h with ⟨h1, h⟩ | ⟨h1, h⟩
    · rcases h with ⟨h2, h⟩ | ⟨h2, h⟩
      · have hwf : w = false := hw.mp h2
        subst hwf
        obtain ⟨v2, n2, sl2, SH2, FI2, FL2, FR2, hc, h⟩ := h
        have k2 := kX12_operator hc
        have hS2 : h_S n2 SH2 := by rw [show n2 = n from k2.1, show SH2 = SH from k2.2.2.1]; exact hS
        have q := op_operator hc hS hp hg (h9 rfl)
        cases hr : f_opr K W t S o B with
        | none =>
          rw [hr] at q
          refine Or.inl ⟨?_, f_no_r hr⟩
          have q' : (FI2 121 69).toInt ≠ 0 := q
          rcases h with ⟨h3, h⟩ | ⟨h3, h⟩
          · obtain ⟨-, rfl⟩ := h
            exact q'
          · rcases h with ⟨h4, h⟩ | ⟨h4, h⟩
            · exact (kGX12_chosen_7 g _ _ _ _ _ _ _ _ _ h).2.2.2.2.2.2 q'
            · exact (kGX12_chosen_7 g _ _ _ _ _ _ _ _ _ h).2.2.2.2.2.2 q'
        | some r =>
          rw [hr] at q
          cases r with
          | inr r =>
            obtain ⟨t1, o1, B1⟩ := r
            obtain ⟨q1, q2⟩ := q
            rcases h with ⟨h3, h⟩ | ⟨h3, h⟩
            · obtain ⟨-, rfl⟩ := h
              exact Or.inr ⟨t1, o1, B1, q2, 1, fun j => by rw [Nat.add_comm 1 j]; exact f_run_re hr⟩
            · exact absurd q1 h3
          | inl r =>
            obtain ⟨t1, w1, S1, o1, B1⟩ := r
            obtain ⟨q1, q2, q3, q4⟩ := q
            have next : ∀ l : Int32, GX12_chosen_7 g l n2 sl2 SH2 FI2 FL2 FR2 v s → (l.toInt = 0 ↔ w1 = false) → ((s.2.2.2.1 121 69).toInt ≠ 0 ∧ f_no K W (t, false, S, o, B)) ∨ (∃ t1 o1 B1, p_vw K W o0 s.2.2.2.1 s.2.2.2.2.1 t1 [] o1 B1 ∧ ∃ k, ∀ j, f_run K W (k + j) (t, false, S, o, B) = some (t1, o1, B1)) := by
              intro l h hl
              rcases ih l n2 sl2 SH2 FI2 FL2 FR2 v s w1 t1 S1 o1 B1 h hS2 q2 hl q3 with ⟨g1, g2⟩ | ⟨t2, o2, B2, g1, k, g2⟩
              · exact Or.inl ⟨g1, f_no_tr (f_to_r hr) g2⟩
              · exact Or.inr ⟨t2, o2, B2, g1, k + 1, fun j => by rw [show k + 1 + j = (k + j) + 1 by omega, f_run_r hr]; exact g2 j⟩
            rcases h with ⟨h3, h⟩ | ⟨h3, h⟩
            · exact absurd h3 q1
            · rcases h with ⟨h4, h⟩ | ⟨h4, h⟩
              · have hw1 := q4.mp h4
                exact next _ h (by rw [hw1]; decide)
              · have hw1 : w1 = false := by
                  cases w1 with
                  | false => rfl
                  | true => exact absurd (q4.mpr rfl) h4
                exact next _ h (by rw [hw1]; decide)
      · have hwt : w = true := by
          cases w with
          | true => rfl
          | false => exact absurd (hw.mpr rfl) h2
        subst hwt
        obtain ⟨v2, n2, sl2, SH2, FI2, FL2, FR2, hc, h⟩ := h
        have k2 := kX12_operand hc
        have hS2 : h_S n2 SH2 := by rw [show n2 = n from k2.1, show SH2 = SH from k2.2.2.1]; exact hS
        have q := op_operand hc hS hp hg
        cases hr : f_opd K W t S o B with
        | none =>
          rw [hr] at q
          refine Or.inl ⟨?_, f_no_d hr⟩
          have q' : (FI2 121 69).toInt ≠ 0 := q
          rcases h with ⟨h4, h⟩ | ⟨h4, h⟩
          · exact (kGX12_chosen_7 g _ _ _ _ _ _ _ _ _ h).2.2.2.2.2.2 q'
          · exact (kGX12_chosen_7 g _ _ _ _ _ _ _ _ _ h).2.2.2.2.2.2 q'
        | some r =>
          rw [hr] at q
          obtain ⟨t1, w1, S1, o1, B1⟩ := r
          obtain ⟨q2, q3, q4⟩ := q
          have next : ∀ l : Int32, GX12_chosen_7 g l n2 sl2 SH2 FI2 FL2 FR2 v s → (l.toInt = 0 ↔ w1 = false) → ((s.2.2.2.1 121 69).toInt ≠ 0 ∧ f_no K W (t, true, S, o, B)) ∨ (∃ t1 o1 B1, p_vw K W o0 s.2.2.2.1 s.2.2.2.2.1 t1 [] o1 B1 ∧ ∃ k, ∀ j, f_run K W (k + j) (t, true, S, o, B) = some (t1, o1, B1)) := by
            intro l h hl
            rcases ih l n2 sl2 SH2 FI2 FL2 FR2 v s w1 t1 S1 o1 B1 h hS2 q2 hl q3 with ⟨g1, g2⟩ | ⟨t2, o2, B2, g1, k, g2⟩
            · exact Or.inl ⟨g1, f_no_tr (f_to_d hr) g2⟩
            · exact Or.inr ⟨t2, o2, B2, g1, k + 1, fun j => by rw [show k + 1 + j = (k + j) + 1 by omega, f_run_d hr]; exact g2 j⟩
          rcases h with ⟨h4, h⟩ | ⟨h4, h⟩
          · have hw1 := q4.mp h4
            exact next _ h (by rw [hw1]; decide)
          · have hw1 : w1 = false := by
              cases w1 with
              | false => rfl
              | true => exact absurd (q4.mpr rfl) h4
            exact next _ h (by rw [hw1]; decide)
    · exact absurd hp.2.1 h1
/-- chosen, by the levels: it refuses what they refuse, and writes what they write -/
theorem op_chosen {T f : Nat} {v : Unit} (h : RX12_chosen n sl SH FI FL FR v s) (hS : h_S n SH) (hg : tk_rg K W) (hT : K T = 0) (ht : t ≤ T) (hf : 12 * (T - t) + 9 < f) (htk : p_tk K W FI FL t) (hF : (FI 121 69).toInt = 0) (ho : (FI 121 71).toInt = o) (ho1 : 0 ≤ o) (ho2 : o ≤ 12) (hB : e_vw FI B) : match lc_ps K W f 0 o t with
    | none => (s.2.2.2.1 121 69).toInt ≠ 0
    | some (t1, c) => t < t1 ∧ t1 ≤ T ∧ ((au_bn (K t1) (W t1) = 4 ∧ (s.2.2.2.1 121 69).toInt ≠ 0) ∨ (au_bn (K t1) (W t1) = 0 ∧ ¬ (K t1 = 5 ∧ W t1 = 63) ∧ p_tk K W s.2.2.2.1 s.2.2.2.2.1 t1 ∧ (s.2.2.2.1 121 69).toInt = 0 ∧ (s.2.2.2.1 121 71).toInt = o ∧ e_vw s.2.2.2.1 (B ++ c))) := by
  obtain ⟨g, h⟩ := h
  have hp : p_vw K W o (h_up FI 121 90 0) FL t [] o B := by
    refine ⟨p_tk_f htk (by decide), by rw [h_up_x (by decide)]; exact hF, ⟨by rw [h_up_eq]; rfl, by simp, trivial, trivial, fun e he => by simp at he, fun e he => by simp at he, e_vw_f hB (by decide)⟩, by rw [h_up_x (by decide)]; exact ho, by simp [f_op], ho1, ho2⟩
  have q := op_chosen_G hg g 1 n sl SH _ FL FR v s true t [] o B h hS hp (by decide) (fun h => Bool.noConfusion h)
  have k := lv_chosen (W := W) hT (o := o) (B := B) ht hf
  generalize lc_ps K W f 0 o t = r at k
  match r, k with
  | none, ⟨m, k⟩ =>
    rcases q with ⟨q1, -⟩ | ⟨t1, o1, B1, q1, m2, q2⟩
    · exact q1
    · have e1 := k m2
      have e2 := q2 m
      rw [Nat.add_comm m2 m, e1] at e2
      cases e2
  | some (t1, c), ⟨k1, k2, k3⟩ =>
    refine ⟨k1, k2, ?_⟩
    rcases k3 with ⟨k3, k4, m, k5⟩ | ⟨k3, m, k4⟩
    · refine Or.inr ⟨k3, k4, ?_⟩
      rcases q with ⟨-, m2, q2⟩ | ⟨t2, o2, B2, q1, m2, q2⟩
      · have e1 := k5 m2
        have e2 := q2 (m + 1)
        rw [show m2 + (m + 1) = m + m2 + 1 by omega, e1] at e2
        cases e2
      · have e1 := k5 m2
        have e2 := q2 (m + 1)
        rw [show m2 + (m + 1) = m + m2 + 1 by omega, e1] at e2
        cases e2
        exact ⟨q1.1, q1.2.1, q1.2.2.2.1, q1.2.2.1.2.2.2.2.2.2⟩
    · refine Or.inl ⟨k3, ?_⟩
      rcases q with ⟨q1, -⟩ | ⟨t2, o2, B2, q1, m2, q2⟩
      · exact q1
      · have e1 := k4 m2
        have e2 := q2 m
        rw [Nat.add_comm m2 m, e1] at e2
        cases e2
end OQ
