/-! operator. -/
def q_opr (K W : Nat → Int) (o0 : Int) (s : hS) (v : Int32) (r : Option (f_St ⊕ (Nat × Int × List Int))) : Prop := match r with
  | none => (s.2.2.2.1 121 69).toInt ≠ 0
  | some (.inl (t1, w, S1, o1, B1)) => v.toInt ≠ 0 ∧ p_vw K W o0 s.2.2.2.1 s.2.2.2.2.1 t1 S1 o1 B1 ∧ (w = false → f_top S1 ≠ 9) ∧ ((s.2.2.2.1 121 91).toInt = 0 ↔ w = true)
  | some (.inr (t1, o1, B1)) => v.toInt = 0 ∧ p_vw K W o0 s.2.2.2.1 s.2.2.2.2.1 t1 [] o1 B1
section OR
variable {K W : Nat → Int} {o0 : Int} {n sl : Nat} {SH : Nat → Nat × Nat} {FI : Nat → Nat → Int32} {FL : Nat → Nat → Int64} {FR : Nat → Nat → Option Nat} {t : Nat} {S : List f_E} {o : Int} {B : List Int} {s : hS}
theorem f_pop_pop {a b : Int} (hab : a ≤ b) : ∀ (S : List f_E) (B : List Int), f_pop a (f_pop b S B).1 (f_pop b S B).2 = f_pop a S B
  | [], _ => rfl
  | e :: S, B => by
    by_cases h : b ≤ e.1
    · have e1 : f_pop b (e :: S) B = f_pop b S (B ++ e.2.1) := by simp only [f_pop, if_pos h]
      have e2 : f_pop a (e :: S) B = f_pop a S (B ++ e.2.1) := by simp only [f_pop, if_pos (show a ≤ e.1 by omega)]
      rw [e1, e2]
      exact f_pop_pop hab S _
    · have e1 : f_pop b (e :: S) B = (e :: S, B) := by simp only [f_pop, if_neg h]
      rw [e1]
/-- later: a sign between two waits -/
theorem p_later {c b : Int32} {v : Unit} (hS : h_S n SH) (h : RX12_later c b n sl SH FI FL FR v s) (hp : p_vw K W o0 FI FL t S o B) (h9 : f_top S ≠ 9) (hb : 1 ≤ b.toInt ∧ b.toInt ≤ 7) (hc : 0 ≤ c.toInt ∧ c.toInt < 256) : p_vw K W o0 s.2.2.2.1 s.2.2.2.2.1 t ((b.toInt, [c.toInt], 0, 0) :: S) o B := by
  have hk := kX12_later h
  obtain ⟨g3, g4, -, rfl⟩ := h
  have hlt : S.length < 256 := by
    have e := r_vw_n hp.2.2.1
    have g5 := g3.2
    rw [s165 hS] at g5
    have : (((256 : Nat)) : Int) = 256 := rfl
    omega
  have hq := r_push (c := c) (b := b) (p := 0) (q := 0) (y := [c.toInt]) hp.2.2.1 hlt (Or.inr (Or.inr ⟨hb.1, hb.2, h9⟩)) (fun _ => ⟨by rw [w_by, if_pos hc.2], hc.1, by omega, fun _ => hc.2⟩)
  refine ⟨⟨by rw [kq_cell hk (by decide)]; exact hp.1.1, hp.1.2.1, by rw [kq_fld hk (by decide)]; exact hp.1.2.2.1, hp.1.2.2.2⟩, by rw [kq_fld hk (by decide)]; exact hp.2.1, hq, ?_⟩
  obtain ⟨o1, o2, o3, o4⟩ := hp.2.2.2
  refine ⟨by rw [kq_fld hk (by decide)]; exact o1, ?_, o3, o4⟩
  rw [f_op, if_pos hb]
  omega
theorem p_binary {c b : Int32} {C : Int} {l : Int} {v : Int32} (hS : h_S n SH) (h : RX12_binary c b n sl SH FI FL FR v s) (hp : p_vw K W o0 FI FL t S o B) (ht : t < 1002) (h9 : f_top S ≠ 9) (hb : b.toInt = l) (hl : 1 ≤ l ∧ l ≤ 7) (hc : c.toInt = C) (hC : 0 ≤ C ∧ C < 256) : v = 1 ∧ p_vw K W o0 s.2.2.2.1 s.2.2.2.2.1 (t + 1) ((l, [C], 0, 0) :: (f_pop l S B).1) o (f_pop l S B).2 := by
  subst hb hc
  obtain ⟨v1, n1, sl1, SH1, FI1, FL1, FR1, hd, v2, n2, sl2, SH2, FI2, FL2, FR2, he, h⟩ := h
  obtain ⟨rfl, rfl⟩ := h
  have hk1 := kX12_reduced hd
  obtain ⟨q1, q2, q3⟩ := p_red hd rfl hl.1 hp h9
  have hS1 : h_S n1 SH1 := by rw [show n1 = n from hk1.1, show SH1 = SH from hk1.2.2.1]; exact hS
  have q4 := p_later hS1 he q1 q2 hl hC
  exact ⟨rfl, p_ti q4 (tk_n1 q4.1) (by omega)⟩
theorem q_bin {c b : Int32} {C : Int} {v v2 : Int32} {n2 sl2 : Nat} {SH2 : Nat → Nat × Nat} {FI2 : Nat → Nat → Int32} {FL2 : Nat → Nat → Int64} {FR2 : Nat → Nat → Option Nat} (hS : h_S n SH) (h : RX12_binary c b n sl SH (h_up FI 121 91 0) FL FR v2 (n2, sl2, SH2, FI2, FL2, FR2)) (h2 : P_ret v2 (n2, sl2, SH2, FI2, FL2, FR2) v s) (hp : p_vw K W o0 FI FL t S o B) (ht : t < 1002) (h9 : f_top S ≠ 9) (hb : b.toInt = au_bn (K t) (W t)) (hl : 1 ≤ au_bn (K t) (W t)) (hc : c.toInt = C) (hC : 0 ≤ C ∧ C < 256) : q_opr K W o0 s v (some (.inl (t + 1, true, (au_bn (K t) (W t), [C], 0, 0) :: (f_pop (au_bn (K t) (W t)) S B).1, o, (f_pop (au_bn (K t) (W t)) S B).2))) := by
  have hp1 := p_fl (k := 91) (x := 0) hp (by decide) (by decide) (by decide) (by decide) (by decide)
  have hr := au_bn_rg (K t) (W t)
  obtain ⟨e1, q⟩ := p_binary hS h hp1 ht h9 hb ⟨hl, hr.2⟩ hc hC
  obtain ⟨rfl, rfl⟩ := h2
  subst e1
  have hk := kX12_binary h
  refine ⟨by decide, q, fun h => Bool.noConfusion h, ?_⟩
  rw [kq_fld hk (by decide)]
  show (h_up FI 121 91 0 121 91).toInt = 0 ↔ _
  rw [h_up_eq]
  simp
theorem f_opr_bin {K W : Nat → Int} {t : Nat} {S : List f_E} {o : Int} {B : List Int} (h1 : au_bn (K t) (W t) ≠ 0) (h6 : au_bn (K t) (W t) ≠ 6) (h4 : au_bn (K t) (W t) ≠ 4) : f_opr K W t S o B = some (.inl (t + 1, true, (au_bn (K t) (W t), [lc_op (K t) (W t)], 0, 0) :: (f_pop (au_bn (K t) (W t)) S B).1, o, (f_pop (au_bn (K t) (W t)) S B).2)) := by
  unfold f_opr
  rw [if_neg h1, if_neg (by simp [h6]), if_neg (fun h => h4 h.1)]
theorem lc_op_rg {k w : Int} : 0 ≤ lc_op k w ∧ lc_op k w < 256 := by
  unfold lc_op
  repeat' split
  all_goals omega
theorem op_added {v : Int32} {v2 : Int32} {n2 sl2 : Nat} {SH2 : Nat → Nat × Nat} {FI2 : Nat → Nat → Int32} {FL2 : Nat → Nat → Int64} {FR2 : Nat → Nat → Option Nat} (hS : h_S n SH) (h : RX12_added n sl SH (h_up FI 121 91 0) FL FR v2 (n2, sl2, SH2, FI2, FL2, FR2)) (h2 : P_ret v2 (n2, sl2, SH2, FI2, FL2, FR2) v s) (hp : p_vw K W o0 FI FL t S o B) (hg : tk_rg K W) (ht : t < 1002) (h9 : f_top S ≠ 9) (hb : au_bn (K t) (W t) = 6) : q_opr K W o0 s v (f_opr K W t S o B) := by
  have c6 : ((6 : Int32)).toInt = 6 := by decide
  have hp1 := p_fl (k := 91) (x := 0) hp (by decide) (by decide) (by decide) (by decide) (by decide)
  have hkw := au_bn_6.mp hb
  obtain ⟨rfl, e2⟩ := h2
  rw [← e2] at h
  clear e2
  obtain ⟨v1, n1, sl1, SH1, FI1, FL1, FR1, hd, h⟩ := h
  have hk1 := kX12_reduced hd
  have hS1 : h_S n1 SH1 := by rw [show n1 = n from hk1.1, show SH1 = SH from hk1.2.2.1]; exact hS
  obtain ⟨q1, q2, q3⟩ := p_red hd c6 (by decide) hp1 h9
  have q4 := p_ti q1 (tk_n1 q1.1) (by omega)
  have h91 : (FI1 121 91).toInt = 0 := by
    rw [show FI1 121 91 = _ from kq_fld hk1 (by decide)]
    show (h_up FI 121 91 0 121 91).toInt = 0
    rw [h_up_eq]; decide
  unfold f_opr
  rw [if_neg (by omega)]
  have go75 : ∀ l1 : Int32, RX12_added_75 l1 n1 sl1 SH1 (h_up FI1 121 68 ((FI1 121 68) + ((1 : Int32)))) FL1 FR1 v s → (l1.toInt = 0 ↔ ¬ W t = 43) → ¬ (decide (au_bn (K t) (W t) = 6 ∧ W t = 43) && lc_al K W (t + 1)) = true → q_opr K W o0 s v (if (decide (au_bn (K t) (W t) = 6 ∧ W t = 43) && lc_al K W (t + 1)) = true then some (.inl (t + 2, false, (f_pop 6 S B).1, o, (f_pop 6 S B).2 ++ 35 :: lc_u 9 (W (t + 1)))) else if au_bn (K t) (W t) = 4 ∧ f_top (f_pop 5 S B).1 = 4 then none else some (.inl (t + 1, true, (au_bn (K t) (W t), [lc_op (K t) (W t)], 0, 0) :: (f_pop (au_bn (K t) (W t)) S B).1, o, (f_pop (au_bn (K t) (W t)) S B).2))) := by
    intro l1 h hl hno
    rw [if_neg hno, if_neg (by omega), hb]
    have hq91 : ((h_up FI1 121 68 ((FI1 121 68) + ((1 : Int32)))) 121 91).toInt = 0 := by rw [h_up_x (by decide)]; exact h91
    rcases h with ⟨h5, h⟩ | ⟨h5, h⟩
    · obtain ⟨v3, n3, sl3, SH3, FI3, FL3, FR3, he, h⟩ := h
      obtain ⟨rfl, rfl⟩ := h
      have e : lc_op (K t) (W t) = 28 := by
        have h43 := hl.mp h5
        have h45 : W t = 45 := by omega
        rw [hkw.1, h45]; decide
      have q5 := p_later hS1 he q4 q2 (by rw [c6]; decide) (by decide)
      rw [c6] at q5
      rw [e]
      refine ⟨by decide, q5, fun h => Bool.noConfusion h, ?_⟩
      rw [kq_fld (kX12_later he) (by decide)]
      exact ⟨fun _ => rfl, fun _ => hq91⟩
    · obtain ⟨v3, n3, sl3, SH3, FI3, FL3, FR3, he, h⟩ := h
      obtain ⟨rfl, rfl⟩ := h
      have e : lc_op (K t) (W t) = 34 := by
        have h43 : W t = 43 := Classical.byContradiction (fun hn => h5 (hl.mpr hn))
        rw [hkw.1, h43]; decide
      have q5 := p_later hS1 he q4 q2 (by rw [c6]; decide) (by decide)
      rw [c6] at q5
      rw [e]
      refine ⟨by decide, q5, fun h => Bool.noConfusion h, ?_⟩
      rw [kq_fld (kX12_later he) (by decide)]
      exact ⟨fun _ => rfl, fun _ => hq91⟩
  have hsg := tk_sign (SH := SH) (FR := FR) hp1.1 (by decide : ((43 : Int32)).toInt = 43)
  rcases h with ⟨h3, h⟩ | ⟨h3, h⟩
  · have h3' := hsg.mp h3
    have h43 : ¬ W t = 43 := fun e => h3' ⟨hkw.1, e⟩
    exact go75 _ h ⟨fun _ => h43, fun _ => h3⟩ (by simp [h43])
  · have h43 : W t = 43 := (Classical.byContradiction (fun hn : ¬ (K t = 5 ∧ W t = 43) => h3 (hsg.mpr hn))).2
    rcases h with ⟨h4, h⟩ | ⟨h4, h⟩
    · rw [tk_alone q4.1 (tk_n1 q1.1) (by omega)] at h4
      exact go75 _ h ⟨fun h => absurd h h3, fun h => absurd h43 h⟩ (by simp [h4])
    · rw [tk_alone q4.1 (tk_n1 q1.1) (by omega)] at h4
      have h4' : lc_al K W (t + 1) = true := by
        cases e : lc_al K W (t + 1) with
        | true => rfl
        | false => exact absurd e h4
      have hal : K (t + 1) = 3 ∧ au_bn (K (t + 1 + 1)) (W (t + 1 + 1)) ≠ 7 := by simpa [lc_al] using h4'
      have hr := (hg (t + 1)).1 hal.1
      rw [if_pos (by rw [Bool.and_eq_true]; exact ⟨decide_eq_true ⟨hb, h43⟩, h4'⟩)]
      obtain ⟨v6, n6, sl6, SH6, FI6, FL6, FR6, he, hpin, v7, n7, sl7, SH7, FI7, FL7, FR7, hf, h⟩ := h
      obtain ⟨rfl, rfl⟩ := h
      have hk6 := kX12_emit he
      have q5 := p_em (a := (n1, sl1, SH1, _, FL1, FR1)) (b := (n6, sl6, SH6, FI6, FL6, FR6)) q4 hk6 (em_emit (b := 35) he (by decide)) (by decide)
      have hS6 : h_S n6 SH6 := by rw [show n6 = n1 from hk6.1, show SH6 = SH1 from hk6.2.2.1]; exact hS1
      have ht1 := tk_lt2 hS6 hpin (tk_n q5.1)
      have hW : (FL6 150 (FI6 121 68).toInt.toNat).toInt = W (t + 1) := by rw [tk_i q5.1, tk_W q5.1]
      have he7 := em_unsigned hf (by rw [hW]; omega)
      rw [hW] at he7
      have q6 := p_em (a := (n6, sl6, SH6, FI6, FL6, FR6)) (b := (n7, sl7, SH7, FI7, FL7, FR7)) q5 (kX12_unsigned hf) he7 (by decide)
      have q7 := p_ti q6 (tk_n1 q6.1) (by omega)
      have q8 := p_fl (k := 91) (x := 1) q7 (by decide) (by decide) (by decide) (by decide) (by decide)
      rw [List.append_assoc] at q8
      refine ⟨by decide, q8, fun _ => q2, ?_⟩
      try dsimp only
      rw [h_up_eq]
      exact ⟨fun h => absurd h (by decide), fun h => Bool.noConfusion h⟩
/-- ? : the choice's first part stands, its jump is left open -/
theorem r_ask {FI : Nat → Nat → Int32} {S : List f_E} {B : List Int} {c : Int32} {p : Nat} (h : r_vw FI S B) (hl : S.length < 256) (h9 : f_top S ≠ 9) (hp : p + 2 ≤ B.length) : r_vw (h_up (h_up (h_up (h_up FI 165 (FI 121 90).toInt.toNat c) 166 (FI 121 90).toInt.toNat (-2)) 121 90 (FI 121 90 + 1)) 167 ((FI 121 90 + 1) - 1).toInt.toNat (Int32.ofNat p)) ((-2, [], p, 0) :: S) B := by
  have hn := r_vw_n h
  have hi : (FI 121 90).toInt.toNat = S.length := by omega
  have hi2 : ((FI 121 90 + 1) - 1).toInt.toNat = S.length := by
    rw [i_sub (i_add hn (by decide : ((1 : Int32)).toInt = 1) (by omega) (by omega)) (by decide : ((1 : Int32)).toInt = 1) (by omega) (by omega)]
    omega
  rw [hi, hi2]
  refine ⟨?_, by rw [List.length_cons]; omega, ⟨⟨?_, ?_, ?_, ?_⟩, ?_⟩, ⟨fun _ _ => h9, h.2.2.2.1⟩, ?_, ?_, e_vw_c (e_vw_f (e_vw_c (e_vw_c h.2.2.2.2.2.2 (by decide) (by decide)) (by decide) (by decide)) (by decide)) (by decide) (by decide)⟩
  · rw [h_up_x (by omega), h_up_eq, h.1, List.length_cons]
    exact (Int32.ofNat_add _ _).symm
  · rw [h_up_x (by omega), h_up_x (by omega), h_up_eq]
    exact (by decide : ((-2 : Int32)).toInt = -2)
  · intro h1
    exact absurd (show (1 : Int) ≤ -2 from h1) (by decide)
  · intro _
    rw [h_up_eq]
  · intro h1
    exact absurd (show (-2 : Int) = -3 from h1) (by decide)
  · exact w_vw_cg h.2.2.1 (fun c i h3 h4 h5 => by rw [h_up_x (by omega), h_up_x (by omega), h_up_x (by omega), h_up_x (by omega)])
  · intro e he
    rcases List.mem_cons.mp he with rfl | he
    · exact Or.inr (Or.inr (Or.inl rfl))
    · exact h.2.2.2.2.1 e he
  · intro e he
    rcases List.mem_cons.mp he with rfl | he
    · exact ⟨fun _ => hp, fun h1 => absurd (show (-2 : Int) = -3 from h1) (by decide)⟩
    · exact h.2.2.2.2.2.1 e he
end OR
