/-! THE REFERENCE'S MEANINGS: whole expressions. -/
section MU
variable {n sl : Nat} {SH : Nat → Nat × Nat} {FR : Nat → Nat → Option Nat} {st : hS} {E : ms_E} {fb : xX} {K W : Nat → Int} {T : Nat} {v : Int64}
/-- what an expression's walk has left -/
def mo_e (n sl : Nat) (SH : Nat → Nat × Nat) (FR : Nat → Nat → Option Nat) (T : Nat) (v : Int64) (st : hS) (r : Option (Nat × mq_Q)) : Prop := r = none ∨ ∃ t1 q1 S1 F2 L2, r = some (t1, q1) ∧ st = (n, sl, SH, F2, L2, FR) ∧ mh F2 L2 T t1 S1 q1 ∧ v = L2 173 0
theorem mo_19 (hS : h_S n SH) (hK : K T = 0) (hT : T ≤ 1001) (hg : tk_rg K W) (hf : xfq E fb) {a1 : Int32} : ∀ (g : Nat) (l2 l3 : Int32) (a : Bool) (t : Nat) (S : List mq_E) (q : mq_Q) (FI : Nat → Nat → Int32) (FL : Nat → Nat → Int64), (l2.toInt = 0 ↔ a = false) → ¬ l3.toInt = 0 → mtk K W T FI FL → rE FI FL SH E → mh FI FL T t S q → GX12_choice_19 a1 g l2 l3 n sl SH FI FL FR v st → ∃ k r, mq_run K W E fb k (t, a, S, q) = some r ∧ mo_e n sl SH FR T v st r := by
  intro g
  induction g with
  | zero => intro l2 l3 a t S q FI FL _ _ _ _ _ h; exact h.elim
  | succ g ih =>
    intro l2 l3 a t S q FI FL hl2 hl3 htk hE hh h
    have h := P_n h hl3
    rcases h with ⟨h0, h⟩ | ⟨h0, h⟩
    · -- an operator
      have ha := hl2.mp h0
      subst ha
      obtain ⟨v3, n3, sl3, SH3, FI3, FL3, FR3, hc, h⟩ := h
      have hh1 : mh (h_up FI 121 91 (0 : Int32)) FL T t S q := mh_f hh (by first | decide | (simp; done) | (simp [ms_0]; done))
      have k1 : mk FI FL (h_up FI 121 91 (0 : Int32)) FL := mk_f mk_rf (by omega)
      rcases mo_opr hS hK hT (mt_mk htk k1) (rE_mk hE k1) (by rw [h_up_eq]; (first | decide | (simp; done) | (simp [ms_0]; done))) hh1 hc with hn | ⟨t1, b, S2, q2, F2, L2, r1, r2, r3, r4, r5⟩ | ⟨q2, S2, F2, L2, r1, r2, r3, r4⟩
      · exact ⟨1, none, by rw [mq_run, hn], Or.inl rfl⟩
      · first | (obtain ⟨zz1, zz2, zz3, zz4, zz5, zz6⟩ := st_c r2; (try subst zz1); (try subst zz2); (try subst zz3); (try subst zz4); (try subst zz5); (try subst zz6)) | cases r2
        have k2 : mk FI FL F2 L2 := mk_tr k1 (mk_st (kX12_meansOperator hc) (by first | decide | (simp; done) | (simp [ms_0]; done)))
        have go : ∀ l : Int32, (l.toInt = 0 ↔ b = false) → GX12_choice_19 a1 g l v3 n sl SH F2 L2 FR v st → ∃ k r, mq_run K W E fb k (t, false, S, q) = some r ∧ mo_e n sl SH FR T v st r := by
          intro l hl h
          obtain ⟨k, r, e1, e2⟩ := ih l v3 b t1 S2 q2 F2 L2 hl (by rw [r4]; (first | decide | (simp; done) | (simp [ms_0]; done))) (mt_mk htk k2) (rE_mk hE k2) r3 h
          exact ⟨k + 1, r, by rw [mq_run, r1]; exact e1, e2⟩
        rcases h with ⟨g0, h⟩ | ⟨g0, h⟩
        · have hb := r5.mp g0
          exact go 1 ⟨fun e => absurd e (by first | decide | (simp; done) | (simp [ms_0]; done)), fun e => by rw [hb] at e; cases e⟩ h
        · have hb : b = false := by
            cases b with
            | false => rfl
            | true => exact absurd (r5.mpr rfl) g0
          exact go 0 ⟨fun _ => hb, fun _ => by first | decide | (simp; done) | (simp [ms_0]; done)⟩ h
      · first | (obtain ⟨zz1, zz2, zz3, zz4, zz5, zz6⟩ := st_c r2; (try subst zz1); (try subst zz2); (try subst zz3); (try subst zz4); (try subst zz5); (try subst zz6)) | cases r2
        have fin : ∀ l : Int32, GX12_choice_19 a1 g l v3 n sl SH F2 L2 FR v st → ∃ k r, mq_run K W E fb k (t, false, S, q) = some r ∧ mo_e n sl SH FR T v st r := by
          intro l h
          cases g with
          | zero => exact h.elim
          | succ g =>
            have h := P_p h (by rw [r3]; (first | decide | (simp; done) | (simp [ms_0]; done)))
            obtain ⟨-, e1, e2⟩ := h
            exact ⟨1, some (t, q2), by rw [mq_run, r1], Or.inr ⟨t, q2, S2, F2, L2, rfl, e2, r4, e1⟩⟩
        rcases h with ⟨g0, h⟩ | ⟨g0, h⟩
        · exact fin _ h
        · exact fin _ h
    · -- an operand
      have ha : a = true := by
        cases a with
        | true => rfl
        | false => exact absurd (hl2.mpr rfl) h0
      subst ha
      obtain ⟨v3, n3, sl3, SH3, FI3, FL3, FR3, hc, h⟩ := h
      rcases mo_opd hS hK hT hg htk hE hf hh hc with hn | ⟨t1, b, S2, q2, F2, L2, r1, r2, r3, r4⟩
      · exact ⟨1, none, by rw [mq_run, hn], Or.inl rfl⟩
      · first | (obtain ⟨zz1, zz2, zz3, zz4, zz5, zz6⟩ := st_c r2; (try subst zz1); (try subst zz2); (try subst zz3); (try subst zz4); (try subst zz5); (try subst zz6)) | cases r2
        have k2 : mk FI FL F2 L2 := mk_st (kX12_meansOperand hc) (by first | decide | (simp; done) | (simp [ms_0]; done))
        have go : ∀ l : Int32, (l.toInt = 0 ↔ b = false) → GX12_choice_19 a1 g l l3 n sl SH F2 L2 FR v st → ∃ k r, mq_run K W E fb k (t, true, S, q) = some r ∧ mo_e n sl SH FR T v st r := by
          intro l hl h
          obtain ⟨k, r, e1, e2⟩ := ih l l3 b t1 S2 q2 F2 L2 hl hl3 (mt_mk htk k2) (rE_mk hE k2) r3 h
          exact ⟨k + 1, r, by rw [mq_run, r1]; exact e1, e2⟩
        rcases h with ⟨g0, h⟩ | ⟨g0, h⟩
        · have hb := r4.mp g0
          exact go 1 ⟨fun e => absurd e (by first | decide | (simp; done) | (simp [ms_0]; done)), fun e => by rw [hb] at e; cases e⟩ h
        · have hb : b = false := by
            cases b with
            | false => rfl
            | true => exact absurd (r4.mpr rfl) g0
          exact go 0 ⟨fun _ => hb, fun _ => by first | decide | (simp; done) | (simp [ms_0]; done)⟩ h
/-- an expression: at its end, its value, or a fault -/
theorem mo_choice {a1 : Int32} {on : Bool} {FI : Nat → Nat → Int32} {FL : Nat → Nat → Int64} {f t t1 : Nat} {o : Int} {c : List Int} (hS : h_S n SH) (hK : K T = 0) (hT : T ≤ 1001) (hg : tk_rg K W) (hf : xfq E fb) (htk : mtk K W T FI FL) (hE : rE FI FL SH E) (h92 : (FI 121 92).toInt = t) (ht : t ≤ T) (ha : a1 = bi on) (hl : lc_ps K W f 0 o t = some (t1, c)) (hc : c.length ≤ 60000) (hn : au_bn (K t1) (W t1) = 0) (h : RX12_choice a1 n sl SH FI FL FR v st) : t < t1 ∧ t1 ≤ T ∧ lxx c ∧ ∃ x, ce E fb c x ∧ ∃ F2 L2, st = (n, sl, SH, F2, L2, FR) ∧ mk FI FL F2 L2 ∧ (F2 121 92).toInt = t1 ∧ (¬ (on = true ∧ (FI 121 93).toInt = 0) → F2 121 93 = FI 121 93) ∧ (on = true → (FI 121 93).toInt = 0 → match x with
    | .inl e => (F2 121 93).toInt = e ∧ e ≠ 0
    | .inr y => v = y ∧ (F2 121 93).toInt = 0) := by
  obtain ⟨F9, L9, e9, k9⟩ := mk_kq (kX12_choice h) (by first | decide | (simp; done) | (simp [ms_0]; done))
  obtain ⟨g, h⟩ := h
  have k0 : mk FI FL (h_up (h_up (h_up FI 121 90 ((0 : Int32))) 121 101 ((0 : Int32))) 121 104 a1) FL := mk_f (mk_f (mk_f mk_rf (by omega)) (by omega)) (by omega)
  -- the state at the beginning
  have hst : ∃ m : Int ⊕ Bool, mm (h_up (h_up (h_up FI 121 90 ((0 : Int32))) 121 101 ((0 : Int32))) 121 104 a1) m ∧ ((FI 121 93).toInt = 0 → m = .inr on) ∧ ((FI 121 93).toInt ≠ 0 → m = .inl (FI 121 93).toInt) := by
    have e93 : (h_up (h_up (h_up FI 121 90 ((0 : Int32))) 121 101 ((0 : Int32))) 121 104 a1) 121 93 = FI 121 93 := by rw [h_up_x (by first | decide | (simp; done) | (simp [ms_0]; done)), h_up_x (by first | decide | (simp; done) | (simp [ms_0]; done)), h_up_x (by first | decide | (simp; done) | (simp [ms_0]; done))]
    by_cases h0 : (FI 121 93).toInt = 0
    · exact ⟨.inr on, ⟨by rw [e93]; exact h0, by rw [h_up_eq]; exact ha⟩, fun _ => rfl, fun e => absurd h0 e⟩
    · exact ⟨.inl (FI 121 93).toInt, ⟨by rw [e93], h0⟩, fun e => absurd e h0, fun _ => rfl⟩
  obtain ⟨m, m1, m2, m3⟩ := hst
  have hh : mh (h_up (h_up (h_up FI 121 90 ((0 : Int32))) 121 101 ((0 : Int32))) 121 104 a1) FL T t [] ([], m) := by
    refine ⟨⟨by rw [h_up_x (by first | decide | (simp; done) | (simp [ms_0]; done)), h_up_x (by first | decide | (simp; done) | (simp [ms_0]; done)), h_up_x (by first | decide | (simp; done) | (simp [ms_0]; done))]; exact h92, ht⟩, ⟨?_, by first | decide | (simp; done) | (simp [ms_0]; done)⟩, trivial, ⟨?_, by first | decide | (simp; done) | (simp [ms_0]; done)⟩, trivial, m1⟩
    · rw [h_up_x (by first | decide | (simp; done) | (simp [ms_0]; done)), h_up_x (by first | decide | (simp; done) | (simp [ms_0]; done)), h_up_eq]; (first | decide | (simp; done) | (simp [ms_0]; done))
    · rw [h_up_x (by first | decide | (simp; done) | (simp [ms_0]; done)), h_up_eq]; (first | decide | (simp; done) | (simp [ms_0]; done))
  obtain ⟨k, r, r1, r2⟩ := mo_19 hS hK hT hg hf g 1 1 true t [] ([], m) _ FL ⟨fun e => absurd e (by first | decide | (simp; done) | (simp [ms_0]; done)), fun e => by cases e⟩ (by first | decide | (simp; done) | (simp [ms_0]; done)) (mt_mk htk k0) (rE_mk hE k0) hh h
  obtain ⟨g1, g2, g3, x, g4, k5, g5⟩ := mv_choice (E := E) (fb := fb) (m := m) hg hK ht hl hc hn
  have er := mq_run_u r1 g5
  refine ⟨g1, g2, g3, x, g4, F9, L9, e9, k9, ?_⟩
  rcases r2 with r2 | ⟨t2, q2, S2, F2, L2, r2, r3, r4, r5⟩
  · rw [r2] at er
    cases er
  · rw [r2] at er
    cases er
    rw [e9] at r3
    cases r3
    obtain ⟨b1, b2, b3, b4, b5, b6⟩ := r4
    refine ⟨b1.1, fun hne => ?_, fun hon h0 => ?_⟩
    · by_cases h0 : (FI 121 93).toInt = 0
      · have hm := m2 h0
        have hof : on = false := by
          cases on with
          | false => rfl
          | true => exact absurd ⟨rfl, h0⟩ hne
        subst hm
        subst hof
        have b6 : (F9 121 93).toInt = 0 ∧ _ := b6
        exact i_eqv (by rw [b6.1, h0])
      · have hm := m3 h0
        subst hm
        have b6 : (F9 121 93).toInt = (FI 121 93).toInt ∧ _ := b6
        exact i_eqv b6.1
    · have hm := m2 h0
      subst hm
      subst hon
      match x, b5, b6 with
      | .inl e, b5, b6 => exact b6
      | .inr y, b5, b6 =>
        have b5 : mz L9 0 (some y) ∧ _ := b5
        exact ⟨r5.trans (b5.1 y rfl), b6.1⟩
end MU
