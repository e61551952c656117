/-! declared. -/
def lp_fl (V : List lp_V) : List Int := (V.map (fun v => v.2.2.2.1)).flatten
theorem lp_fl_snoc {V : List lp_V} {v : lp_V} : lp_fl (V ++ [v]) = lp_fl V ++ v.2.2.2.1 := by simp [lp_fl]
/-- the variables that were told, as they lie in the cells -/
def v_vw (FI : Nat → Nat → Int32) (FL : Nat → Nat → Int64) (V : List lp_V) : Prop := (FI 121 78).toInt = V.length ∧ V.length ≤ 12 ∧ (∀ i v, V[i]? = some v → (FL 158 i).toInt = v.1 ∧ (FI 160 i).toInt = v.2.1 ∧ (FI 159 i).toInt = v.2.2.1 ∧ FI 163 i = (if v.2.2.2.2 = true then 1 else 0) ∧ FI 161 i = Int32.ofNat (lp_fl (V.take i)).length) ∧ (V ≠ [] → FI 161 V.length = Int32.ofNat (lp_fl V).length)
section DC
variable {K W : Nat → Int} {P : Nat → Nat} {n sl : Nat} {SH : Nat → Nat × Nat} {FI : Nat → Nat → Int32} {FL : Nat → Nat → Int64} {FR : Nat → Nat → Option Nat} {t T f : Nat} {o : Int} {B : List Int} {s : hS} {V : List lp_V}
theorem d_names {w : Int} : ∀ (g : Nat) (l1 : Int32) (n sl : Nat) (SH : Nat → Nat × Nat) (FI : Nat → Nat → Int32) (FL : Nat → Nat → Int64) (FR : Nat → Nat → Option Nat) (v : Unit) (s : hS) (i : Nat), GX12_declared_21 g l1 n sl SH FI FL FR v s → l1.toInt = i → i ≤ V.length → V.length ≤ 12 → (FI 121 78).toInt = V.length → (∀ (j : Nat) (v : lp_V), V[j]? = some v → (FL 158 j).toInt = v.1) → (FL 150 (FI 121 68).toInt.toNat).toInt = w → ∃ n2 sl2 SH2 FI2, RX12_declared_74 n2 sl2 SH2 FI2 FL FR v s ∧ n2 = n ∧ SH2 = SH ∧ ((FI2 = FI ∧ (∀ (j : Nat) (v : lp_V), i ≤ j → V[j]? = some v → v.1 ≠ w) ∧ V.length < 12) ∨ ((FI2 121 69).toInt ≠ 0 ∧ ((FI 121 69).toInt ≠ 0 ∨ (∃ (j : Nat) (v : lp_V), V[j]? = some v ∧ v.1 = w) ∨ 12 ≤ V.length))) := by
  intro g
  induction g with
  | zero => intro l1 n sl SH FI FL FR v s i h; exact h.elim
  | succ g ih =>
    intro l1 n sl SH FI FL FR v s i h hl hi h12 hm hN hw
    have c12 : ((12 : Int32)).toInt = 12 := by decide
    rcases h with ⟨h1, h⟩ | ⟨h1, h⟩
    · have hlt : i < V.length := by omega
      obtain ⟨-, -, h⟩ := h
      have hx := hN i V[i] (List.getElem?_eq_getElem hlt)
      have hi2 : l1.toInt.toNat = i := by omega
      rw [hi2, hx, hw] at h
      have hl1 : (l1 + 1).toInt = ((i + 1 : Nat) : Int) := by
        rw [i_add hl (by decide : ((1 : Int32)).toInt = 1) (by omega) (by omega)]; omega
      rcases h with ⟨h2, h⟩ | ⟨h2, h⟩
      · obtain ⟨v2, n2, sl2, SH2, FI2, FL2, FR2, hc, h⟩ := h
        have kc := kX12_fail hc
        have e1 : n2 = n := kc.1
        have e2 : SH2 = SH := kc.2.2.1
        have e3 : FR2 = FR := kc.2.2.2.1
        have e4 : FL2 = FL := by funext a b; exact kc.2.2.2.2.2.1 a b (by simp [k_in])
        subst e1 e2 e3 e4
        obtain ⟨n3, sl3, SH3, FI3, q1, q2, q3, q4⟩ := ih (l1 + 1) n2 sl2 SH2 FI2 FL2 FR2 v s (i + 1) h hl1 (by omega) h12 (by rw [show FI2 121 78 = FI 121 78 from kq_fld kc (by decide)]; exact hm) hN (by rw [show FI2 121 68 = FI 121 68 from kq_fld kc (by decide)]; exact hw)
        refine ⟨n3, sl3, SH3, FI3, q1, q2, q3, Or.inr ⟨?_, Or.inr (Or.inl ⟨i, V[i], List.getElem?_eq_getElem hlt, h2⟩)⟩⟩
        rcases q4 with ⟨q4, -⟩ | ⟨q4, -⟩
        · rw [q4]
          exact f_fault hc (by decide)
        · exact q4
      · obtain ⟨n3, sl3, SH3, FI3, q1, q2, q3, q4⟩ := ih (l1 + 1) n sl SH FI FL FR v s (i + 1) h hl1 (by omega) h12 hm hN hw
        refine ⟨n3, sl3, SH3, FI3, q1, q2, q3, ?_⟩
        rcases q4 with ⟨q4, q5, q6⟩ | q4
        · refine Or.inl ⟨q4, fun j v hj hv => ?_, q6⟩
          by_cases e : j = i
          · subst e
            rw [List.getElem?_eq_getElem hlt] at hv
            cases hv
            exact h2
          · exact q5 j v (by omega) hv
        · exact Or.inr q4
    · have hiv : i = V.length := by omega
      rcases h with ⟨h2, h⟩ | ⟨h2, h⟩
      · obtain ⟨v2, n2, sl2, SH2, FI2, FL2, FR2, hc, h⟩ := h
        have kc := kX12_fail hc
        have e3 : FR2 = FR := kc.2.2.2.1
        have e4 : FL2 = FL := by funext a b; exact kc.2.2.2.2.2.1 a b (by simp [k_in])
        subst e3 e4
        exact ⟨n2, sl2, SH2, FI2, h, kc.1, kc.2.2.1, Or.inr ⟨f_fault hc (by decide), Or.inr (Or.inr (by omega))⟩⟩
      · refine ⟨n, sl, SH, FI, h, rfl, rfl, Or.inl ⟨rfl, fun j v hj hv => ?_, by omega⟩⟩
        exfalso
        have := (List.getElem?_eq_some_iff.mp hv).1
        omega
/-- a declaration's end: the variable is told -/
theorem d_223 {v : Unit} {F0 : Nat → Nat → Int32} {L0 : Nat → Nat → Int64} {st m : Nat} {c : List Int} {b : Bool} {w : Int} {x : Int64} (h : RX12_declared_223 n sl SH FI FL FR v s) (hd : d_vw K W FI FL t o (lp_fl V ++ c)) (ht : t + 1 ≤ 2000) (hv : v_vw F0 L0 V) (h12 : V.length < 12)
    (h78 : FI 121 78 = F0 121 78) (h158 : FL 158 = va_up (L0 158) V.length x) (hw : x.toInt = w) (h160 : ∀ i, i ≠ V.length → FI 160 i = F0 160 i) (h160' : (FI 160 V.length).toInt = st) (h159 : ∀ i, i ≠ V.length → FI 159 i = F0 159 i) (h159' : (FI 159 V.length).toInt = m) (h163 : ∀ i, i ≠ V.length → FI 163 i = F0 163 i) (h163' : FI 163 V.length = if b = true then 1 else 0) (h161 : ∀ i, i ≠ V.length → FI 161 i = F0 161 i) (h161' : FI 161 V.length = Int32.ofNat (lp_fl V).length) :
    if K t = 5 ∧ W t = 59 then d_vw K W s.2.2.2.1 s.2.2.2.2.1 (t + 1) o (lp_fl (V ++ [(w, st, m, c, b)])) ∧ v_vw s.2.2.2.1 s.2.2.2.2.1 (V ++ [(w, st, m, c, b)]) else (s.2.2.2.1 121 69).toInt ≠ 0 := by
  obtain ⟨v0, n0, sl0, SH0, FI0, FL0, FR0, hc, -, -, rfl⟩ := h
  have kc := kX12_need hc
  rcases d_need hc (by decide : ((59 : Int32)).toInt = 59) hd ht with ⟨g1, g2, g3⟩ | ⟨g1, g2⟩
  · rw [if_pos ⟨g1, g2⟩]
    have e78 : (FI0 121 78).toInt = V.length := by rw [show FI0 121 78 = FI 121 78 from kq_fld kc (by decide), h78]; exact hv.1
    have e78' : (FI0 121 78 + (1 : Int32)).toInt = ((V.length + 1 : Nat) : Int) := by
      rw [i_add e78 (by decide : ((1 : Int32)).toInt = 1) (by omega) (by omega)]; omega
    have e78n : (FI0 121 78 + (1 : Int32)).toInt.toNat = V.length + 1 := by omega
    have efl : FL0 = FL := by funext a b; exact kc.2.2.2.2.2.1 a b (by simp [k_in])
    have ce : ∀ c, 155 ≤ c → FI0 c = FI c := by
      intro c hc2
      refine kq_cell kc ?_
      simp [k_no]
      omega
    have g4 := d_ce (c := 161) (k := (FI0 121 78 + (1 : Int32)).toInt.toNat) (x := FI0 121 73) (d_fl (k := 78) (x := FI0 121 78 + 1) g3 (by decide) (by decide) (by decide) (by decide)) (by decide) (by decide) (by decide)
    rw [lp_fl_snoc]
    refine ⟨g4, ?_, ?_, ?_, ?_⟩
    · show ((h_up (h_up FI0 121 78 (FI0 121 78 + 1)) 161 (FI0 121 78 + (1 : Int32)).toInt.toNat (FI0 121 73)) 121 78).toInt = _
      rw [h_up_nc (by decide), h_up_eq, e78', List.length_append]
      rfl
    · rw [List.length_append]
      simp
      omega
    · intro i y hx
      show (FL0 158 i).toInt = y.1 ∧ ((h_up (h_up FI0 121 78 (FI0 121 78 + 1)) 161 (FI0 121 78 + (1 : Int32)).toInt.toNat (FI0 121 73)) 160 i).toInt = y.2.1 ∧ ((h_up (h_up FI0 121 78 (FI0 121 78 + 1)) 161 (FI0 121 78 + (1 : Int32)).toInt.toNat (FI0 121 73)) 159 i).toInt = y.2.2.1 ∧ (h_up (h_up FI0 121 78 (FI0 121 78 + 1)) 161 (FI0 121 78 + (1 : Int32)).toInt.toNat (FI0 121 73)) 163 i = _ ∧ (h_up (h_up FI0 121 78 (FI0 121 78 + 1)) 161 (FI0 121 78 + (1 : Int32)).toInt.toNat (FI0 121 73)) 161 i = _
      have hi := (List.getElem?_eq_some_iff.mp hx).1
      rw [List.length_append] at hi
      have hi' : i < V.length + 1 := hi
      rw [h_up_nc (by decide), h_up_nc (by decide), h_up_nc (by decide), h_up_nc (by decide), h_up_nc (by decide), h_up_nc (by decide), e78n, h_up_ne (by omega), h_up_nc (by decide), efl, h158, ce 160 (by decide), ce 159 (by decide), ce 163 (by decide), ce 161 (by decide)]
      by_cases e : i = V.length
      · subst e
        rw [List.getElem?_append_right (Nat.le_refl _), Nat.sub_self] at hx
        cases hx
        refine ⟨by simp [va_up, hw], h160', h159', h163', ?_⟩
        rw [h161', List.take_left' rfl]
      · rw [List.getElem?_append_left (by omega)] at hx
        have q := hv.2.2.1 i y hx
        rw [h160 i e, h159 i e, h163 i e, h161 i e, List.take_append_of_le_length (by omega)]
        refine ⟨?_, q.2⟩
        simp only [va_up, e, if_false]
        exact q.1
    · intro _
      show (h_up (h_up FI0 121 78 (FI0 121 78 + 1)) 161 (FI0 121 78 + (1 : Int32)).toInt.toNat (FI0 121 73)) 161 _ = _
      rw [e78n, List.length_append, show V.length + [(w, st, m, c, b)].length = V.length + 1 from rfl, h_up_eq, lp_fl_snoc]
      exact g3.2.2.2.1
  · rw [if_neg g1]
    show ((h_up (h_up FI0 121 78 (FI0 121 78 + 1)) 161 (FI0 121 78 + (1 : Int32)).toInt.toNat (FI0 121 73)) 121 69).toInt ≠ 0
    rw [h_up_nc (by decide), h_up_x (by decide)]
    exact g2
end DC
