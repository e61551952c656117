/-! THE REFERENCE'S MEANINGS of expressions, by levels: they are what the code means. -/
def mv_8 (K W : Nat → Int) (E : ms_E) (fb : xX) (T t : Nat) (S : List mq_E) (q : mq_Q) (t1 : Nat) (c : List Int) : Prop := t < t1 ∧ t1 ≤ T ∧ lxx c ∧ ∃ v, ce E fb c v ∧ ∀ S2 q2, mq_fin E S (mq_ps v q) = some (S2, q2) → mq_to K W E fb (t, true, S, q) (t1, false, S2, q2)
def mv_b (K W : Nat → Int) (E : ms_E) (fb : xX) (T l t : Nat) (S : List mq_E) (q : mq_Q) (t1 : Nat) (c : List Int) : Prop := t < t1 ∧ t1 ≤ T ∧ lxx c ∧ ∃ v, ce E fb c v ∧ ∃ P q1, mq_to K W E fb (t, true, S, q) (t1, false, P ++ S, q1) ∧ (∀ e, e ∈ P → (l : Int) ≤ e.1) ∧ mq_fl P q1 = some (mq_ps v q) ∧ (au_bn (K t1) (W t1) < (l : Int) ∨ (l ≤ 4 ∧ au_bn (K t1) (W t1) = 4))
def mv_0 (K W : Nat → Int) (E : ms_E) (fb : xX) (T t : Nat) (S : List mq_E) (q : mq_Q) (t1 : Nat) (c : List Int) : Prop := t < t1 ∧ t1 ≤ T ∧ lxx c ∧ ∃ v, ce E fb c v ∧ ∃ P q1, mq_to K W E fb (t, true, S, q) (t1, false, P ++ S, q1) ∧ mq_all (P ++ S) q1 = mq_all S (mq_ps v q) ∧ (au_bn (K t1) (W t1) = 0 ∨ au_bn (K t1) (W t1) = 4) ∧ ¬ (K t1 = 5 ∧ W t1 = 63)
section MV
variable {K W : Nat → Int} {E : ms_E} {fb : xX} {T : Nat}
theorem mv_8_b {t t1 : Nat} {S : List mq_E} {q : mq_Q} {c : List Int} (h : mv_8 K W E fb T t S q t1 c) (hS : mq_top S ≠ 9) : mv_b K W E fb T 8 t S q t1 c := by
  obtain ⟨h1, h2, h3, v, h4, h5⟩ := h
  refine ⟨h1, h2, h3, v, h4, [], mq_ps v q, h5 _ _ (mq_fin_stop hS), fun e he => by simp at he, rfl, Or.inl ?_⟩
  have := au_bn_rg (K t1) (W t1)
  omega
theorem lc_pr_len {sub : Nat → Option (Nat × List Int)} {l : Nat} : ∀ (n t : Nat) (c : List Int) (t1 : Nat) (c1 : List Int), lc_pr sub K W l n t c = some (t1, c1) → c.length ≤ c1.length := by
  intro n
  induction n with
  | zero => intro t c t1 c1 h; cases h
  | succ n ih =>
    intro t c t1 c1 h
    rw [lc_pr] at h
    by_cases hb : au_bn (K t) (W t) = (l : Int)
    · rw [if_pos hb] at h
      by_cases ha : (decide (l = 6 ∧ W t = 43) && lc_al K W (t + 1)) = true
      · rw [if_pos ha] at h
        have := ih _ _ _ _ h
        rw [List.length_append] at this
        omega
      · rw [if_neg ha] at h
        cases hs : sub (t + 1) with
        | none => rw [hs] at h; cases h
        | some p =>
          obtain ⟨t2, c2⟩ := p
          rw [hs] at h
          (try dsimp only at h)
          by_cases h4 : l = 4
          · rw [if_pos h4] at h
            cases h
            rw [List.length_append]
            omega
          · rw [if_neg h4] at h
            have := ih _ _ _ _ h
            rw [List.length_append] at this
            omega
    · rw [if_neg hb] at h
      cases h
      exact Nat.le_refl _
/-- a number behind an operator -/
theorem mq_num {t : Nat} {S : List mq_E} {q : mq_Q} (h3 : K t = 3) (hS : mq_top S ≠ 9) : mq_to K W E fb (t, true, S, q) (t + 1, false, S, mq_ps (.inr (Int64.ofInt (W t))) q) := by
  refine mq_to_d ?_
  have ea : mq_at K W E fb t = (t + 1, .inr (Int64.ofInt (W t))) := by
    unfold mq_at
    rw [if_pos h3]
  have el : lc_at K W false t ≠ none := by
    unfold lc_at
    rw [if_pos h3]
    intro e
    cases e
  unfold mq_opd
  rw [if_neg (by rw [h3]; unfold lc_uy; simp), if_neg (by omega), if_neg el, ea]
  (try dsimp only)
  rw [mq_fin_stop hS]
theorem mq_bin {t : Nat} {P S : List mq_E} {q q2 : mq_Q} {l : Nat} (hb : au_bn (K t) (W t) = (l : Int)) (hl : 1 ≤ l) (hP : ∀ e, e ∈ P → (l : Int) ≤ e.1) (hf : mq_fl P q = some q2) (hS : mq_top S < (l : Int)) : mq_to K W E fb (t, false, P ++ S, q) (t + 1, true, ((l : Int), lc_op (K t) (W t), false, false) :: S, q2) := by
  refine mq_to_r ?_
  unfold mq_opr
  rw [if_neg (by omega), hb, mq_rd_app hP hf, mq_rd_stop hS]
theorem mv_pr {l : Nat} {sub : Nat → Option (Nat × List Int)} {S : List mq_E} {q : mq_Q} (hl : 1 ≤ l) (hl7 : l ≤ 7) (hg : tk_rg K W) (hT : K T = 0) (hS : mq_top S < (l : Int))
    (hsub : ∀ (t : Nat) (S2 : List mq_E) (q2 : mq_Q) (t1 : Nat) (c1 : List Int), t ≤ T → mq_top S2 = (l : Int) → sub t = some (t1, c1) → c1.length ≤ 60000 → mv_b K W E fb T (l + 1) t S2 q2 t1 c1) :
    ∀ (n t : Nat) (c : List Int) (P : List mq_E) (q1 : mq_Q) (t1 : Nat) (c1 : List Int) (v : xX), lc_pr sub K W l n t c = some (t1, c1) → c1.length ≤ 60000 → t ≤ T → (∀ e, e ∈ P → (l : Int) ≤ e.1) → mq_fl P q1 = some (mq_ps v q) → ce E fb c v → lxx c → (au_bn (K t) (W t) < (l : Int) + 1 ∨ (l + 1 ≤ 4 ∧ au_bn (K t) (W t) = 4)) →
      t ≤ t1 ∧ t1 ≤ T ∧ lxx c1 ∧ ∃ v1, ce E fb c1 v1 ∧ ∃ P2 q2, mq_to K W E fb (t, false, P ++ S, q1) (t1, false, P2 ++ S, q2) ∧ (∀ e, e ∈ P2 → (l : Int) ≤ e.1) ∧ mq_fl P2 q2 = some (mq_ps v1 q) ∧ (au_bn (K t1) (W t1) < (l : Int) ∨ (l ≤ 4 ∧ au_bn (K t1) (W t1) = 4)) := by
  intro n
  induction n with
  | zero => intro t c P q1 t1 c1 v h; cases h
  | succ n ih =>
    intro t c P q1 t1 c1 v h hlen ht hP hf hc hx hst
    rw [lc_pr] at h
    by_cases hb : au_bn (K t) (W t) = (l : Int)
    · rw [if_pos hb] at h
      have hk0 : K t ≠ 0 := fun e => by rw [e, au_bn_k0] at hb; omega
      have htT := lt_T hT ht hk0
      have s1 := mq_bin (E := E) (fb := fb) hb hl hP hf hS
      have one : ∀ e : mq_E, e ∈ [((l : Int), lc_op (K t) (W t), false, false)] → (l : Int) ≤ e.1 := by
        intro e he
        rw [List.mem_singleton.mp he]
        exact Int.le_refl _
      by_cases ha : (decide (l = 6 ∧ W t = 43) && lc_al K W (t + 1)) = true
      · rw [if_pos ha] at h
        have ha2 : (l = 6 ∧ W t = 43) ∧ lc_al K W (t + 1) = true := by simpa using ha
        obtain ⟨⟨hl6, hw⟩, hal⟩ := ha2
        have hal2 : K (t + 1) = 3 ∧ au_bn (K (t + 2)) (W (t + 2)) ≠ 7 := by simpa [lc_al] using hal
        have htT2 := lt_T hT htT (by rw [hal2.1]; (first | decide | (simp; done) | (simp [ms_0]; done)))
        have hr := (hg (t + 1)).1 hal2.1
        have hn := au_bn_rg (K (t + 2)) (W (t + 2))
        have eop : lc_op (K t) (W t) = 34 := by
          have hk5 := au_bn_6.mp (show au_bn (K t) (W t) = 6 by omega)
          unfold lc_op
          rw [if_neg (by omega), if_neg (by omega), if_pos hw]
        have s2 := mq_num (W := W) (E := E) (fb := fb) (t := t + 1) (S := ((l : Int), lc_op (K t) (W t), false, false) :: S) (q := mq_ps v q) hal2.1 (by show (l : Int) ≠ 9; omega)
        have f2 : mq_fl [((l : Int), lc_op (K t) (W t), false, false)] (mq_ps (.inr (Int64.ofInt (W (t + 1)))) (mq_ps v q)) = some (mq_ps (x_ad v (W (t + 1))) q) := by
          rw [mq_fl]
          (try dsimp only)
          rw [mq_b_ps, eop, xe2_34]
          rfl
        obtain ⟨g1, g2, g3, v1, g4, P2, q2, g5, g6⟩ := ih (t + 2) (c ++ 35 :: lc_u 9 (W (t + 1))) [((l : Int), lc_op (K t) (W t), false, false)] _ t1 c1 _ h hlen htT2 one f2 (ce_35 hr hc) (lxx_a hx (lxx_35 hr)) (Or.inl (by omega))
        exact ⟨by omega, g2, g3, v1, g4, P2, q2, mq_to_tr s1 (mq_to_tr s2 g5), g6⟩
      · rw [if_neg ha] at h
        cases hs : sub (t + 1) with
        | none => rw [hs] at h; cases h
        | some p =>
          obtain ⟨t2, c2⟩ := p
          rw [hs] at h
          (try dsimp only at h)
          have w := lc_op_ok (K t) (W t)
          have l2 : c2.length ≤ 60000 := by
            by_cases h4 : l = 4
            · rw [if_pos h4] at h
              cases h
              simp only [List.length_append] at hlen
              omega
            · rw [if_neg h4] at h
              have := lc_pr_len _ _ _ _ _ h
              simp only [List.length_append] at this
              omega
          obtain ⟨g1, g2, g3, v2, g4, P2, q2, g5, g6, g7, g8⟩ := hsub (t + 1) (((l : Int), lc_op (K t) (W t), false, false) :: S) (mq_ps v q) t2 c2 htT rfl hs l2
          have e1 : P2 ++ ((l : Int), lc_op (K t) (W t), false, false) :: S = (P2 ++ [((l : Int), lc_op (K t) (W t), false, false)]) ++ S := by simp
          rw [e1] at g5
          have f2 : mq_fl (P2 ++ [((l : Int), lc_op (K t) (W t), false, false)]) q2 = some (mq_ps (xe2 (lc_op (K t) (W t)) v v2) q) := by
            rw [mq_fl_app g7, mq_fl]
            (try dsimp only)
            rw [mq_b_ps]
            rfl
          have hP2 : ∀ e, e ∈ P2 ++ [((l : Int), lc_op (K t) (W t), false, false)] → (l : Int) ≤ e.1 := by
            intro e he
            rcases List.mem_append.mp he with he | he
            · have := g6 e he
              omega
            · exact one e he
          have hc2 : ce E fb (c ++ (c2 ++ [lc_op (K t) (W t)])) (xe2 (lc_op (K t) (W t)) v v2) := ce_2 w hc g4
          have hx2 : lxx (c ++ (c2 ++ [lc_op (K t) (W t)])) := lxx_a hx (lxx_a g3 (lxx_op (by omega)))
          by_cases h4 : l = 4
          · rw [if_pos h4] at h
            cases h
            have hn := au_bn_rg (K t1) (W t1)
            refine ⟨by omega, g2, hx2, _, hc2, _, q2, mq_to_tr s1 g5, hP2, f2, ?_⟩
            by_cases h9 : au_bn (K t1) (W t1) = 4
            · exact Or.inr ⟨by omega, h9⟩
            · refine Or.inl ?_
              rcases g8 with g8 | g8
              · omega
              · omega
          · rw [if_neg h4] at h
            obtain ⟨k1, k2, k3, v1, k4, P3, q3, k5, k6⟩ := ih t2 (c ++ (c2 ++ [lc_op (K t) (W t)])) _ q2 t1 c1 _ h hlen g2 hP2 f2 hc2 hx2 (by
              rcases g8 with g8 | g8
              · exact Or.inl (by omega)
              · exact Or.inr g8)
            exact ⟨by omega, k2, k3, v1, k4, P3, q3, mq_to_tr s1 (mq_to_tr g5 k5), k6⟩
    · rw [if_neg hb] at h
      cases h
      refine ⟨Nat.le_refl _, ht, hx, v, hc, P, q1, mq_to_rf, hP, hf, ?_⟩
      rcases hst with hst | ⟨h4, h5⟩
      · exact Or.inl (by omega)
      · exact Or.inr ⟨by omega, h5⟩
theorem ch_len {c2 c3 : List Int} : (lc_ch c2 c3).length = c2.length + c3.length + 6 := by
  unfold lc_ch
  simp only [List.length_cons, List.length_append, lc_by_len]
  omega
theorem ce_ch {c1 c2 c3 : List Int} {x y z : xX} (hl : c2.length ≤ 60000) (hl3 : c3.length ≤ 60000) (h1 : ce E fb c1 x) (h2 : ce E fb c2 y) (h3 : ce E fb c3 z) : ce E fb (c1 ++ lc_ch c2 c3) (mq_ch x y z) := by
  match x, h1 with
  | .inl e, h1 => exact ce_ft h1
  | .inr t, h1 =>
    by_cases h : t.toInt = 0
    · rw [show mq_ch (.inr t) y z = z from if_pos h]
      exact ce_3z (by omega) (by omega) h1 h h3
    · rw [show mq_ch (.inr t) y z = y from if_neg h]
      exact ce_3n (by omega) h1 h h2
theorem mq_un_c {t : Nat} {c : List Int} {x : xX} (hg : tk_rg K W) (hu : lc_uy (K t) (W t) = true) (h : ce E fb c x) (hx : lxx c) : ce E fb (c ++ lc_un (K t) (W t)) (mq_1 E (mq_c (K t) (W t)) x) ∧ lxx (c ++ lc_un (K t) (W t)) := by
  have hu2 : K t = 4 ∨ (K t = 5 ∧ (W t = 45 ∨ W t = 126)) ∨ (K t = 2 ∧ W t = 7) := of_decide_eq_true hu
  unfold lc_un mq_c
  by_cases h4 : K t = 4
  · have hr := (hg t).2 h4
    rw [if_neg (show ¬ K t = 2 by omega), if_pos h4, if_pos h4]
    unfold mq_1
    rw [if_neg (show ¬ 256 + W t < 256 by omega), show 256 + W t - 256 = W t by omega]
    by_cases h8 : W t = 8
    · rw [if_pos h8]
      refine ⟨?_, lxx_a hx (lxx_op (Or.inl rfl))⟩
      have e : xe1 E 148 (W t) x = xe1 E 6 0 x := by
        rw [h8]
        match x with
        | .inl e => rfl
        | .inr t => rfl
      rw [e]
      exact ce_un (Or.inl rfl) h
    · rw [if_neg h8]
      exact ⟨ce_rd h, lxx_a hx lxx_148⟩
  · by_cases h2 : K t = 2
    · rw [if_pos h2, if_neg h4, if_pos h2]
      refine ⟨?_, lxx_a hx (lxx_op (Or.inr (Or.inl rfl)))⟩
      unfold mq_1
      rw [if_pos (by first | decide | (simp; done) | (simp [ms_0]; done))]
      exact ce_un (Or.inr (Or.inl rfl)) h
    · rw [if_neg h2, if_neg h4, if_neg h4, if_neg h2]
      by_cases h45 : W t = 45
      · rw [if_pos h45, if_pos h45]
        refine ⟨?_, lxx_a hx (lxx_op (by first | decide | (simp; done) | (simp [ms_0]; done)))⟩
        unfold mq_1
        rw [if_pos (by first | decide | (simp; done) | (simp [ms_0]; done))]
        exact ce_un (Or.inr (Or.inr (Or.inl rfl))) h
      · rw [if_neg h45, if_neg h45]
        refine ⟨?_, lxx_a hx (lxx_op (by first | decide | (simp; done) | (simp [ms_0]; done)))⟩
        unfold mq_1
        rw [if_pos (by first | decide | (simp; done) | (simp [ms_0]; done))]
        exact ce_un (Or.inr (Or.inr (Or.inr rfl))) h
theorem mv_main (hg : tk_rg K W) (hT : K T = 0) : ∀ f : Nat,
    (∀ (o : Int) (t : Nat) (S : List mq_E) (q : mq_Q) (t1 : Nat) (c : List Int), t ≤ T → lc_ps K W f 8 o t = some (t1, c) → c.length ≤ 60000 → mv_8 K W E fb T t S q t1 c) ∧
    (∀ l : Nat, 1 ≤ l → l ≤ 7 → ∀ (o : Int) (t : Nat) (S : List mq_E) (q : mq_Q) (t1 : Nat) (c : List Int), t ≤ T → mq_top S < (l : Int) → lc_ps K W f l o t = some (t1, c) → c.length ≤ 60000 → mv_b K W E fb T l t S q t1 c) ∧
    (∀ (o : Int) (t : Nat) (S : List mq_E) (q : mq_Q) (t1 : Nat) (c : List Int), t ≤ T → mq_top S < 1 → lc_ps K W f 0 o t = some (t1, c) → c.length ≤ 60000 → mv_0 K W E fb T t S q t1 c) := by
  intro f
  induction f with
  | zero =>
    refine ⟨?_, ?_, ?_⟩
    · intro o t S q t1 c _ h; cases h
    · intro l _ _ o t S q t1 c _ _ h; cases h
    · intro o t S q t1 c _ _ h; cases h
  | succ f ih =>
    obtain ⟨ih8, ihb, ih0⟩ := ih
    refine ⟨?_, ?_, ?_⟩
    · intro o t S q t1 c ht h hlen
      rw [lc_ps, if_neg (by first | decide | (simp; done) | (simp [ms_0]; done)), if_pos rfl] at h
      by_cases hu : lc_uy (K t) (W t) = true
      · rw [if_pos hu] at h
        have hk : K t ≠ 0 := fun e => by rw [e, lc_uy_k0] at hu; cases hu
        have ht1 := lt_T hT ht hk
        by_cases h12 : 12 ≤ o
        · rw [if_pos h12] at h; cases h
        rw [if_neg h12] at h
        cases hs : lc_ps K W f 8 (o + 1) (t + 1) with
        | none => rw [hs] at h; cases h
        | some p =>
          obtain ⟨t2, c2⟩ := p
          rw [hs] at h
          cases h
          have s1 : mq_to K W E fb (t, true, S, q) (t + 1, true, (9, mq_c (K t) (W t), false, false) :: S, q) := mq_to_d (by unfold mq_opd; rw [if_pos hu])
          obtain ⟨g1, g2, g3, v, g4, g5⟩ := ih8 (o + 1) (t + 1) ((9, mq_c (K t) (W t), false, false) :: S) q _ _ ht1 hs (by rw [List.length_append] at hlen; omega)
          have g6 := mq_un_c hg hu g4 g3
          refine ⟨by omega, g2, g6.2, _, g6.1, fun S2 q2 e => mq_to_tr s1 (g5 S2 q2 ?_)⟩
          rw [mq_fin_9]
          exact e
      · rw [if_neg hu] at h
        by_cases hp : K t = 5 ∧ W t = 40
        · rw [if_pos hp] at h
          have ht1 := lt_T hT ht (by omega)
          by_cases h12 : 12 ≤ o
          · rw [if_pos h12] at h; cases h
          rw [if_neg h12] at h
          cases hs : lc_ps K W f 0 (o + 1) (t + 1) with
          | none => rw [hs] at h; cases h
          | some p =>
            obtain ⟨t2, c2⟩ := p
            rw [hs] at h
            (try dsimp only at h)
            by_cases hk : K t2 = 5 ∧ W t2 = 41
            · rw [if_pos hk] at h
              cases h
              have s1 : mq_to K W E fb (t, true, S, q) (t + 1, true, (-1, 0, false, false) :: S, q) := mq_to_d (by unfold mq_opd; rw [if_neg hu, if_pos hp])
              obtain ⟨g1, g2, g3, v, g4, P, q1, g5, g6, g7, g8⟩ := ih0 (o + 1) (t + 1) ((-1, 0, false, false) :: S) q t2 c ht1 (by show (-1 : Int) < 1; (first | decide | (simp; done) | (simp [ms_0]; done))) hs hlen
              have ht2 := lt_T hT g2 (by omega)
              rw [mq_all_stop (S := (-1, 0, false, false) :: S) (by show (-1 : Int) < 1; decide) (by show (-1 : Int) ≠ -3; decide)] at g6
              have hn0 : au_bn (K t2) (W t2) = 0 := by rw [hk.1, hk.2]; (first | decide | (simp; done) | (simp [ms_0]; done))
              refine ⟨by omega, ht2, g3, v, g4, fun S2 q2 e => mq_to_tr s1 (mq_to_tr g5 (mq_to_r ?_))⟩
              unfold mq_opr
              rw [if_pos hn0, if_neg g8, g6]
              show (if K t2 = 5 ∧ W t2 = 58 ∧ (-1 : Int) = -2 then _ else if K t2 = 5 ∧ W t2 = 41 ∧ (-1 : Int) = -1 then (match mq_fin E S (mq_ps v q) with
                | none => none
                | some r2 => some (Sum.inl (t2 + 1, false, r2))) else _) = _
              rw [if_neg (by omega), if_pos ⟨hk.1, hk.2, rfl⟩, e]
            · rw [if_neg hk] at h; cases h
        · rw [if_neg hp] at h
          have g := lc_at_lt hT ht h
          obtain ⟨g1, g2, g3⟩ := mq_at_ok (E := E) (fb := fb) hg h
          refine ⟨g.1, g.2, g2, _, g3, fun S2 q2 e => mq_to_d ?_⟩
          unfold mq_opd
          rw [if_neg hu, if_neg hp, if_neg (by rw [h]; intro e9; cases e9), e, g1]
    · intro l hl1 hl7 o t S q t1 c ht hS h hlen
      rw [lc_ps, if_neg (by omega), if_neg (by omega)] at h
      have hsub : ∀ (t : Nat) (S2 : List mq_E) (q2 : mq_Q) (t1 : Nat) (c1 : List Int), t ≤ T → mq_top S2 < (l : Int) + 1 → lc_ps K W f (l + 1) o t = some (t1, c1) → c1.length ≤ 60000 → mv_b K W E fb T (l + 1) t S2 q2 t1 c1 := by
        intro t S2 q2 t1 c1 ht hS h hlen
        by_cases h7 : l = 7
        · subst h7
          exact mv_8_b (ih8 o t S2 q2 t1 c1 ht h hlen) (by omega)
        · exact ihb (l + 1) (by omega) (by omega) o t S2 q2 t1 c1 ht (by omega) h hlen
      have hpr := mv_pr (K := K) (W := W) (E := E) (fb := fb) (T := T) (l := l) (sub := fun t' => lc_ps K W f (l + 1) o t') (S := S) (q := q) hl1 hl7 hg hT hS (fun t' S2 q2 t1 c1 k1 k2 k3 k4 => hsub t' S2 q2 t1 c1 k1 (by omega) k3 k4)
      by_cases hcm : (decide (l = 6) && lc_cm K W t) = true
      · rw [if_pos hcm] at h
        have h2 : l = 6 ∧ lc_cm K W t = true := by simpa using hcm
        obtain ⟨h6, h3⟩ := h2
        obtain ⟨b, x, q1, q2, q3⟩ := lc_cm_at h3
        have g := lc_bs_lt (T := T) q1
        have g2 := lc_ad_lt (T := T) q2
        have hb := g.2.1 hT ht
        have hb2 := g2.1 hT hb
        have hb1 : b + 1 ≤ T := by omega
        rw [q3] at h
        (try dsimp only at h)
        have had : (K b = 5 ∧ (W b = 43 ∨ W b = 45)) ∧ (K (b + 1) = 3 ∧ au_bn (K (b + 2)) (W (b + 2)) ≠ 7) := by simpa [lc_ad, lc_al] using q2
        have hr := (hg (b + 1)).1 had.2.1
        obtain ⟨m1, m2⟩ := mq_bs_ok (E := E) (fb := fb) hg q1
        have hsg : -999999999999999999 ≤ lc_sg K W b ∧ lc_sg K W b ≤ 999999999999999999 := by
          unfold lc_sg
          split
          · omega
          · omega
        obtain ⟨m3, m4⟩ := m2 _ hsg
        have s1 : mq_to K W E fb (t, true, S, q) (b, false, [] ++ S, mq_ps (mq_at K W E fb t).2 q) := by
          refine mq_to_d ?_
          have el : lc_at K W false t ≠ none := by
            unfold lc_at
            rw [if_neg g.2.2.1, if_neg g.2.2.2.2.2.1, if_neg g.2.2.2.2.2.2, q1]
            (try dsimp only)
            rw [if_neg (by simp)]
            intro e
            cases e
          unfold mq_opd
          rw [if_neg (by rw [g.2.2.2.1]; (first | decide | (simp; done) | (simp [ms_0]; done))), if_neg g.2.2.2.2.1, if_neg el, mq_fin_stop (by omega), m1]
          rfl
        have hb6 : au_bn (K b) (W b) = ((6 : Nat) : Int) := au_bn_6.mpr had.1
        have s2 := mq_bin (E := E) (fb := fb) (t := b) (P := []) (S := S) (q := mq_ps (mq_at K W E fb t).2 q) hb6 (by first | decide | (simp; done) | (simp [ms_0]; done)) (fun e he => by simp at he) rfl (by omega)
        have s3 := mq_num (W := W) (E := E) (fb := fb) (t := b + 1) (S := (((6 : Nat) : Int), lc_op (K b) (W b), false, false) :: S) (q := mq_ps (mq_at K W E fb t).2 q) had.2.1 (by show ((6 : Nat) : Int) ≠ 9; (first | decide | (simp; done) | (simp [ms_0]; done)))
        have f2 : mq_fl [(((6 : Nat) : Int), lc_op (K b) (W b), false, false)] (mq_ps (.inr (Int64.ofInt (W (b + 1)))) (mq_ps (mq_at K W E fb t).2 q)) = some (mq_ps (x_ad (mq_at K W E fb t).2 (lc_sg K W b)) q) := by
          rw [mq_fl]
          (try dsimp only)
          rw [mq_b_ps]
          have e : xe2 (lc_op (K b) (W b)) (mq_at K W E fb t).2 (.inr (Int64.ofInt (W (b + 1)))) = x_ad (mq_at K W E fb t).2 (lc_sg K W b) := by
            unfold lc_sg
            by_cases h43 : W b = 43
            · rw [if_pos h43, ← xe2_34]
              congr 1
              unfold lc_op
              rw [if_neg (by omega), if_neg (by omega), if_pos h43]
            · rw [if_neg h43, ← xe2_28]
              congr 1
              unfold lc_op
              rw [if_neg (by omega), if_neg (by omega), if_neg h43, if_pos (by omega)]
          rw [e]
          rfl
        obtain ⟨k1, k2, k3, v1, k4, P2, q5, k5, k6⟩ := hpr f (b + 2) _ [(((6 : Nat) : Int), lc_op (K b) (W b), false, false)] _ t1 c _ h hlen hb2 (fun e he => by rw [List.mem_singleton.mp he]; show (l : Int) ≤ ((6 : Nat) : Int); omega) f2 m4 m3 (Or.inl (by omega))
        exact ⟨by omega, k2, k3, v1, k4, P2, q5, mq_to_tr s1 (mq_to_tr s2 (mq_to_tr s3 k5)), k6⟩
      · rw [if_neg hcm] at h
        cases hs : lc_ps K W f (l + 1) o t with
        | none => rw [hs] at h; cases h
        | some p =>
          obtain ⟨t2, c2⟩ := p
          rw [hs] at h
          (try dsimp only at h)
          obtain ⟨g1, g2, g3, v2, g4, P, q1, g5, g6, g7, g8⟩ := hsub t S q t2 c2 ht (by omega) hs (by have := lc_pr_len _ _ _ _ _ h; omega)
          obtain ⟨k1, k2, k3, v1, k4, P2, q5, k5, k6⟩ := hpr f t2 c2 P q1 t1 c v2 h hlen g2 (fun e he => by have := g6 e he; omega) g7 g4 g3 (by
            rcases g8 with g8 | g8
            · exact Or.inl (by omega)
            · exact Or.inr g8)
          exact ⟨by omega, k2, k3, v1, k4, P2, q5, mq_to_tr g5 k5, k6⟩
    · intro o t S q t1 c ht hS h hlen
      rw [lc_ps, if_pos rfl] at h
      cases hs : lc_ps K W f 1 o t with
      | none => rw [hs] at h; cases h
      | some p =>
        obtain ⟨t2, c1⟩ := p
        rw [hs] at h
        (try dsimp only at h)
        have get : c1.length ≤ 60000 → mv_b K W E fb T 1 t S q t2 c1 := fun hl => ihb 1 (by first | decide | (simp; done) | (simp [ms_0]; done)) (by first | decide | (simp; done) | (simp [ms_0]; done)) o t S q t2 c1 ht hS hs hl
        by_cases hq : K t2 = 5 ∧ W t2 = 63
        · rw [if_pos hq] at h
          by_cases h12 : 12 ≤ o
          · rw [if_pos h12] at h; cases h
          rw [if_neg h12] at h
          cases hs2 : lc_ps K W f 0 (o + 1) (t2 + 1) with
          | none => rw [hs2] at h; cases h
          | some p2 =>
            obtain ⟨t3, c2⟩ := p2
            rw [hs2] at h
            (try dsimp only at h)
            by_cases hk : K t3 = 5 ∧ W t3 = 58
            · rw [if_pos hk] at h
              cases hs3 : lc_ps K W f 0 (o + 1) (t3 + 1) with
              | none => rw [hs3] at h; cases h
              | some p3 =>
                obtain ⟨t4, c3⟩ := p3
                rw [hs3] at h
                cases h
                have ll : c1.length ≤ 60000 ∧ c2.length ≤ 60000 ∧ c3.length ≤ 60000 := by
                  rw [List.length_append, ch_len] at hlen
                  omega
                obtain ⟨g1, g2, g3, v1, g4, P, q1, g5, g6, g7, g8⟩ := get ll.1
                have g6' : ∀ e, e ∈ P → 1 ≤ e.1 := fun e he => by have := g6 e he; omega
                have hn0 : au_bn (K t2) (W t2) = 0 := by rw [hq.1, hq.2]; (first | decide | (simp; done) | (simp [ms_0]; done))
                have ht2 := lt_T hT g2 (by omega)
                have stp : ∀ (v2 v3 : xX), ∃ q3 wl so, mq_as (mq_ps v1 q) = some (q3, wl, so) ∧ mq_el wl so (mq_ps v3 (mq_co wl so (mq_ps v2 q3))) = some (mq_ps (mq_ch v1 v2 v3) q) := fun v2 v3 => mq_ch_ps
                obtain ⟨q3, wl, so, a1, -⟩ := stp v1 v1
                have s1 : mq_to K W E fb (t2, false, P ++ S, q1) (t2 + 1, true, (-2, 0, wl, so) :: S, q3) := by
                  refine mq_to_r ?_
                  unfold mq_opr
                  rw [if_pos hn0, if_pos hq, mq_rd_app g6' g7, mq_rd_stop hS]
                  (try dsimp only)
                  rw [a1]
                obtain ⟨m1, m2, m3, v2, m4, P2, q4, m5, m6, m7, m8⟩ := ih0 (o + 1) (t2 + 1) ((-2, 0, wl, so) :: S) q3 t3 c2 ht2 (by show (-2 : Int) < 1; (first | decide | (simp; done) | (simp [ms_0]; done))) hs2 ll.2.1
                rw [mq_all_stop (S := (-2, 0, wl, so) :: S) (by show (-2 : Int) < 1; decide) (by show (-2 : Int) ≠ -3; decide)] at m6
                have hn2 : au_bn (K t3) (W t3) = 0 := by rw [hk.1, hk.2]; (first | decide | (simp; done) | (simp [ms_0]; done))
                have ht3 := lt_T hT m2 (by omega)
                have s2 : mq_to K W E fb (t3, false, P2 ++ (-2, 0, wl, so) :: S, q4) (t3 + 1, true, (-3, 0, wl, so) :: S, mq_co wl so (mq_ps v2 q3)) := by
                  refine mq_to_r ?_
                  unfold mq_opr
                  rw [if_pos hn2, if_neg m8, m6]
                  show (if K t3 = 5 ∧ W t3 = 58 ∧ (-2 : Int) = -2 then some (Sum.inl (t3 + 1, true, (-3, 0, wl, so) :: S, mq_co wl so (mq_ps v2 q3))) else _) = _
                  rw [if_pos ⟨hk.1, hk.2, rfl⟩]
                obtain ⟨r1, r2, r3, v3, r4, P3, q5, r5, r6, r7, r8⟩ := ih0 (o + 1) (t3 + 1) ((-3, 0, wl, so) :: S) (mq_co wl so (mq_ps v2 q3)) t1 c3 ht3 (by show (-3 : Int) < 1; (first | decide | (simp; done) | (simp [ms_0]; done))) hs3 ll.2.2
                obtain ⟨q3', wl', so', b1, b2⟩ := stp v2 v3
                rw [a1] at b1
                cases b1
                rw [mq_all_3 b2] at r6
                have e3 : P3 ++ (-3, 0, wl, so) :: S = (P3 ++ [(-3, 0, wl, so)]) ++ S := by simp
                rw [e3] at r5 r6
                exact ⟨by omega, r2, lxx_a g3 (lxx_ch m3 r3), _, ce_ch ll.2.1 ll.2.2 g4 m4 r4, _, q5, mq_to_tr g5 (mq_to_tr s1 (mq_to_tr m5 (mq_to_tr s2 r5))), r6, r7, r8⟩
            · rw [if_neg hk] at h; cases h
        · rw [if_neg hq] at h
          cases h
          obtain ⟨g1, g2, g3, v1, g4, P, q1, g5, g6, g7, g8⟩ := get hlen
          have g6' : ∀ e, e ∈ P → 1 ≤ e.1 := fun e he => by have := g6 e he; omega
          have hn := au_bn_rg (K t1) (W t1)
          refine ⟨g1, g2, g3, v1, g4, P, q1, g5, mq_all_app g6' g7, ?_, hq⟩
          rcases g8 with g8 | g8
          · exact Or.inl (by omega)
          · exact Or.inr g8.2
/-- an expression from t on, to its end -/
theorem mv_choice (hg : tk_rg K W) (hT : K T = 0) {f t t1 : Nat} {o : Int} {c : List Int} {m : Int ⊕ Bool} (ht : t ≤ T) (h : lc_ps K W f 0 o t = some (t1, c)) (hl : c.length ≤ 60000) (hn : au_bn (K t1) (W t1) = 0) : t < t1 ∧ t1 ≤ T ∧ lxx c ∧ ∃ v, ce E fb c v ∧ ∃ k, mq_run K W E fb k (t, true, [], ([], m)) = some (some (t1, mq_ps v ([], m))) := by
  obtain ⟨g1, g2, g3, v, g4, P, q1, ⟨k, g5⟩, g6, g7, g8⟩ := (mv_main (E := E) (fb := fb) hg hT f).2.2 o t [] ([], m) t1 c ht (by show (-11 : Int) < 1; (first | decide | (simp; done) | (simp [ms_0]; done))) h hl
  refine ⟨g1, g2, g3, v, g4, k + 1, ?_⟩
  rw [g5, mq_run]
  unfold mq_opr
  rw [if_pos hn, if_neg g8, g6]
  rfl
end MV
