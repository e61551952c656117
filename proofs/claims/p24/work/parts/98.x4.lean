/-! turned, reducedAll: the stack and the bytes behind them. -/
theorem e_vw_ln {F : Nat → Nat → Int32} {B B2 : List Int} (h : e_vw F B) (h1 : B2.length = B.length) (h2 : 4000 < B.length) : e_vw F B2 := ⟨by rw [h1]; exact h.1, fun h3 => by omega⟩
section TA
variable {n sl : Nat} {SH : Nat → Nat × Nat} {FI : Nat → Nat → Int32} {FL : Nat → Nat → Int64} {FR : Nat → Nat → Option Nat} {v : Unit} {s : hS}
theorem rs_turned {e : f_E} {S : List f_E} {o0 o : Int} {B : List Int} (h : RX12_turned n sl SH FI FL FR v s) (hr : r_vw FI (e :: S) B) (ho : o_vw FI o0 (e :: S) o) (h3 : e.1 = -3) : r_vw s.2.2.2.1 S (f_turn e.2.2.1 e.2.2.2 B) ∧ o_vw s.2.2.2.1 o0 S (o - 1) ∧ f_top S ≠ 9 := by
  obtain ⟨-, -, v2, n2, sl2, SH2, FI2, FL2, FR2, hc, h⟩ := h
  have hr1 := r_fl (k := 71) (x := FI 121 71 - 1) (r_pop hr) (by decide) (by decide)
  have ho1 := o_pop ho (by omega)
  have hk := kX12_emits hc
  have he := em_emits (m := 3) hc (by decide) (by decide)
  have e03 : lc_by ((0 : Int64)).toInt 3 = [0, 0, 0] := by decide
  rw [e03] at he
  have hr2 := r_em (a := (n, sl, SH, _, FL, FR)) hr1 hk he (by decide) (by decide)
  have ho2 : o_vw FI2 o0 S (o - 1) := by
    refine ⟨?_, ho1.2⟩
    rw [show FI2 121 71 = _ from kq_fld hk (by decide)]
    try dsimp only
    rw [h_up_eq]
    exact ho1.1
  have h9 : f_top S ≠ 9 := hr.2.2.2.1.1 (by omega) (by omega)
  have hpl := (hr.2.2.2.2.2.1 e (by simp)).2 h3
  have hix := r_ix hr
  have w1 := hr.2.2.1.1.2.2.1 (Or.inr h3)
  have w2 := hr.2.2.1.1.2.2.2 h3
  have hB := hr.2.2.2.2.2.2
  have hl2 : (B ++ [0, 0, 0]).length = B.length + 3 := by simp
  have hB2 : e_vw FI2 (B ++ [0, 0, 0]) := hr2.2.2.2.2.2.2
  have hlen := f_turn_len hpl.1 hpl.2
  have fin : ∀ F : Nat → Nat → Int32, (∀ c k, c ≠ 154 → c ≠ 164 → F c k = FI2 c k) → (B.length + 3 ≤ 4000 → ∀ i, i < B.length + 3 → (F 154 i).toInt = (f_turn e.2.2.1 e.2.2.2 B).getD i 0) → r_vw F S (f_turn e.2.2.1 e.2.2.2 B) ∧ o_vw F o0 S (o - 1) ∧ f_top S ≠ 9 := by
    intro F hF hc2
    refine ⟨⟨by rw [hF 121 90 (by decide) (by decide)]; exact hr2.1, hr2.2.1, w_vw_cg hr2.2.2.1 (fun c i h1 h2 _ => hF c i (by omega) (by omega)), hr2.2.2.2.1, hr2.2.2.2.2.1, f_pl_le hr1.2.2.2.2.2.1 (by omega), ?_, ?_⟩, ?_, h9⟩
    · rw [hF 121 73 (by decide) (by decide), hlen, ← hl2]; exact hB2.1
    · rw [hlen]; exact hc2
    · exact ⟨by rw [hF 121 71 (by decide) (by decide)]; exact ho2.1, ho2.2⟩
  rcases h with ⟨h1, h⟩ | ⟨h1, h⟩
  · obtain ⟨-, rfl⟩ := h
    refine fin FI2 (fun _ _ _ _ => rfl) (fun h4 => ?_)
    exfalso
    have e4 : ((4000 : Int32)).toInt = 4000 := by decide
    rw [hB2.1, i_lit (by omega), e4] at h1
    omega
  · have hk3 := kX12_turned_74 h
    refine fin s.2.2.2.1 (fun c k h4 h5 => kq_fld hk3 ?_) (fun h4 i hi => ?_)
    · have : k_no mX12_turned_74 c = true := by
        unfold k_no mX12_turned_74
        simp [h4, h5]
      exact k_no_in this k
    · have ha : (FI 167 ((FI 121 90) - ((1 : Int32))).toInt.toNat).toInt = e.2.2.1 := by rw [hix, w1, i_lit (by omega)]
      have hm : (FI 168 ((FI 121 90) - ((1 : Int32))).toInt.toNat).toInt = e.2.2.2 := by rw [hix, w2, i_lit (by omega)]
      have hL : (FI 121 73).toInt = B.length := by rw [hB.1, i_lit (by omega)]
      have hf := i_sub (i_sub hm ha (by omega) (by omega)) (by decide : ((2 : Int32)).toInt = 2) (by omega) (by omega)
      have hg := i_sub hL hm (by omega) (by omega)
      have hf2 : ((e.2.2.2 : Int) - e.2.2.1 - 2) = ((e.2.2.2 - e.2.2.1 - 2 : Nat) : Int) := by omega
      have hg2 : ((B.length : Int) - e.2.2.2) = ((B.length - e.2.2.2 : Nat) : Int) := by omega
      rw [hf2] at hf
      rw [hg2] at hg
      obtain ⟨u1, h⟩ := h
      obtain ⟨G1, ⟨u2, q1⟩, q2, q3, -⟩ := tu_74 ha hm hf hg (by omega) (by omega) u1 0 n2 sl2 SH2 FI2 FL2 FR2 v s 0 h (by decide) (by omega)
      obtain ⟨G2, ⟨u3, q5⟩, q6, q7, q8⟩ := tu_107 ha hm hf hg (by omega) (by omega) (by omega) hpl.1 u2 0 n2 sl2 SH2 G1 FL2 FR2 v s 0 q1 (by decide) (by omega)
      have hp := i_add (i_add ha (by decide : ((2 : Int32)).toInt = 2) (by omega) (by omega)) hg (by omega) (by omega)
      have hp2 : ((e.2.2.1 : Int) + 2 + ((B.length - e.2.2.2 : Nat) : Int)) = ((e.2.2.1 + 2 + (B.length - e.2.2.2) : Nat) : Int) := by omega
      rw [hp2] at hp
      obtain ⟨r1, r2, r3, r4⟩ := tu_191 ha hf hg hp (by omega) (by omega) (by omega) (by omega) (by omega) u3 0 n2 sl2 SH2 _ FL2 FR2 v s 0 q5 (by decide) (by omega)
      have hBc : ∀ j, j < B.length → (FI2 154 j).toInt = B.getD j 0 := by
        intro j hj
        rw [hB2.2 (by omega) j (by omega), l_getD_app hj]
      rw [f_turn_get hpl.1 hpl.2 i hi]
      by_cases c1 : i < e.2.2.1
      · rw [if_pos c1, r4 i (by omega) (by omega) (Or.inl (by omega)), h_up_ne (by omega), h_up_ne (by omega), h_up_ne (by omega), q8 i (Or.inl (by omega)), q2, hBc i (by omega)]
      · rw [if_neg c1]
        by_cases c2 : i = e.2.2.1
        · rw [if_pos c2, c2]; exact r1
        · rw [if_neg c2]
          by_cases c3 : i = e.2.2.1 + 1
          · rw [if_pos c3, c3]; exact r2
          · rw [if_neg c3]
            by_cases c4 : i < e.2.2.1 + 2 + (B.length - e.2.2.2)
            · have hj := q7 (i - (e.2.2.1 + 2)) (by omega) (by omega)
              rw [show e.2.2.1 + 2 + (i - (e.2.2.1 + 2)) = i by omega] at hj
              rw [if_pos c4, r4 i c2 c3 (Or.inl (by omega)), h_up_ne (by omega), h_up_ne (by omega), h_up_ne (by omega), hj, q2, hBc _ (by omega)]
            · rw [if_neg c4]
              by_cases c5 : i = e.2.2.1 + 2 + (B.length - e.2.2.2)
              · rw [if_pos c5, r4 i c2 c3 (Or.inl (by omega)), c5, h_up_ne (by omega), h_up_ne (by omega), h_up_eq]
                decide
              · rw [if_neg c5]
                by_cases c6 : i = e.2.2.1 + 2 + (B.length - e.2.2.2) + 1
                · rw [if_pos c6, r4 i c2 c3 (Or.inl (by omega)), c6, h_up_ne (by omega), h_up_eq, i_m255, hf]
                · rw [if_neg c6]
                  by_cases c7 : i = e.2.2.1 + 2 + (B.length - e.2.2.2) + 2
                  · rw [if_pos c7, r4 i c2 c3 (Or.inl (by omega)), c7, h_up_eq, i_m255, i_sh8 hf]
                  · rw [if_neg c7]
                    have hj := r3 (i - (e.2.2.1 + 2 + (B.length - e.2.2.2) + 3)) (by omega) (by omega)
                    rw [show e.2.2.1 + 2 + (B.length - e.2.2.2) + 3 + (i - (e.2.2.1 + 2 + (B.length - e.2.2.2) + 3)) = i by omega] at hj
                    rw [hj, h_up_nc (by decide), h_up_nc (by decide), h_up_nc (by decide), q6, q3 _ (by omega) (by omega), hBc _ (by omega)]
theorem f_all_pop : ∀ (S : List f_E) (o : Int) (B : List Int), f_all (f_pop 1 S B).1 o (f_pop 1 S B).2 = f_all S o B
  | [], _, _ => rfl
  | e :: S, o, B => by
    by_cases h : 1 ≤ e.1
    · have e1 : f_pop 1 (e :: S) B = f_pop 1 S (B ++ e.2.1) := by simp only [f_pop, if_pos h]
      have e2 : f_all (e :: S) o B = f_all S o (B ++ e.2.1) := by simp only [f_all, if_pos h]
      rw [e1, e2]
      exact f_all_pop S o _
    · have e1 : f_pop 1 (e :: S) B = (e :: S, B) := by simp only [f_pop, if_neg h]
      rw [e1]
theorem rs_all : ∀ (g n sl : Nat) (SH : Nat → Nat × Nat) (FI : Nat → Nat → Int32) (FL : Nat → Nat → Int64) (FR : Nat → Nat → Option Nat) (v : Unit) (s : hS) (S : List f_E) (o0 o : Int) (B : List Int), GX12_reducedAll_5 g n sl SH FI FL FR v s → r_vw FI S B → o_vw FI o0 S o → f_top S ≠ 9 → f_top S < 1 → r_vw s.2.2.2.1 (f_all S o B).1 (f_all S o B).2.2 ∧ o_vw s.2.2.2.1 o0 (f_all S o B).1 (f_all S o B).2.1 ∧ f_top (f_all S o B).1 < 1 ∧ f_top (f_all S o B).1 ≠ -3 := by
  intro g
  induction g with
  | zero => intro n sl SH FI FL FR v s S o0 o B h; exact h.elim
  | succ g ih =>
    intro n sl SH FI FL FR v s S o0 o B h hr ho h9 h1
    have ht := r_tops (SH := SH) (FL := FL) (FR := FR) hr
    have e3 : ((-3 : Int32)).toInt = -3 := by decide
    have e1 : ((1 : Int32)).toInt = 1 := by decide
    rcases h with ⟨h2, h⟩ | ⟨h2, h⟩
    · obtain ⟨v1, n1, sl1, SH1, FI1, FL1, FR1, hc, h⟩ := h
      obtain ⟨v2, n2, sl2, SH2, FI2, FL2, FR2, hd, h⟩ := h
      rw [ht, e3] at h2
      cases S with
      | nil => exact absurd h2 (by decide)
      | cons e S =>
        have h3 : e.1 = -3 := h2
        obtain ⟨q1, q2, q3⟩ := rs_turned hc hr ho h3
        obtain ⟨g2, hd⟩ := hd
        have q := rs_reduced (b := 1) (by decide) g2 n1 sl1 SH1 FI1 FL1 FR1 v2 _ S o0 (o - 1) _ hd q1 q2 q3
        rw [e1] at q
        obtain ⟨p1, p2, p3, p4⟩ := q
        have k := ih n2 sl2 SH2 FI2 FL2 FR2 v s _ o0 (o - 1) _ h p1 p2 p3 p4
        rw [f_all_pop] at k
        have e4 : f_all (e :: S) o B = f_all S (o - 1) (f_turn e.2.2.1 e.2.2.2 B) := by
          simp only [f_all]
          rw [if_neg (by omega), if_pos h3]
        rw [e4]
        exact k
    · obtain ⟨-, rfl⟩ := h
      rw [ht, e3] at h2
      rw [f_all_stop h1 h2]
      exact ⟨hr, ho, h1, h2⟩
theorem rs_reducedAll {S : List f_E} {o0 o : Int} {B : List Int} (h : RX12_reducedAll n sl SH FI FL FR v s) (hr : r_vw FI S B) (ho : o_vw FI o0 S o) (h9 : f_top S ≠ 9) : r_vw s.2.2.2.1 (f_all S o B).1 (f_all S o B).2.2 ∧ o_vw s.2.2.2.1 o0 (f_all S o B).1 (f_all S o B).2.1 ∧ f_top (f_all S o B).1 < 1 ∧ f_top (f_all S o B).1 ≠ -3 := by
  obtain ⟨v1, n1, sl1, SH1, FI1, FL1, FR1, ⟨g1, hc⟩, g2, h⟩ := h
  have e1 : ((1 : Int32)).toInt = 1 := by decide
  have q := rs_reduced (b := 1) (by decide) g1 n sl SH FI FL FR v1 _ S o0 o B hc hr ho h9
  rw [e1] at q
  obtain ⟨p1, p2, p3, p4⟩ := q
  have k := rs_all g2 n1 sl1 SH1 FI1 FL1 FR1 v s _ o0 o _ h p1 p2 p3 p4
  rw [f_all_pop] at k
  exact k
end TA
