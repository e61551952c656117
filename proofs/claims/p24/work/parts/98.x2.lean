/-! THE REFERENCE'S OPERATOR STACK in the cells, as f_run has it. -/
def k_no (m : k_M) (c : Nat) : Bool := m.1.all (fun e => !(e.1 == c)) && !m.2.1.contains c
theorem k_no_in {m : k_M} {c : Nat} (h : k_no m c = true) (k : Nat) : k_in m.1 m.2.1 c k = false := by
  unfold k_no at h
  rw [Bool.and_eq_true] at h
  unfold k_in
  rw [Bool.or_eq_false_iff]
  refine ⟨?_, by simpa using h.2⟩
  cases e : m.1.contains (c, k) with
  | false => rfl
  | true =>
    have h3 := List.all_eq_true.mp h.1 _ (List.contains_iff_mem.mp e)
    simp at h3
theorem kq_cell {m : k_M} {a b : hS} {c : Nat} (h : kq m a b) (hc : k_no m c = true) : b.2.2.2.1 c = a.2.2.2.1 c := funext (fun k => h.2.2.2.2.1 c k (k_no_in hc k))
theorem kq_fld {m : k_M} {a b : hS} {c k : Nat} (h : kq m a b) (hc : k_in m.1 m.2.1 c k = false) : b.2.2.2.1 c k = a.2.2.2.1 c k := h.2.2.2.2.1 c k hc
theorem kq_fl {m : k_M} {a b : hS} {c : Nat} (h : kq m a b) (hc : k_no (m.2.2.1, m.2.2.2, [], []) c = true) : b.2.2.2.2.1 c = a.2.2.2.2.1 c := funext (fun k => h.2.2.2.2.2.1 c k (k_no_in hc k))
def w_by (c : Int) : List Int := if c < 256 then [c] else [148, c - 256]
def w_vw (FI : Nat → Nat → Int32) : List f_E → Prop
  | [] => True
  | e :: S => ((FI 166 S.length).toInt = e.1 ∧ (1 ≤ e.1 → e.2.1 = w_by (FI 165 S.length).toInt ∧ 0 ≤ (FI 165 S.length).toInt ∧ (FI 165 S.length).toInt < 512 ∧ (e.1 ≠ 9 → (FI 165 S.length).toInt < 256)) ∧ ((e.1 = -2 ∨ e.1 = -3) → FI 167 S.length = Int32.ofNat e.2.2.1) ∧ (e.1 = -3 → FI 168 S.length = Int32.ofNat e.2.2.2)) ∧ w_vw FI S
theorem w_vw_cg {F F2 : Nat → Nat → Int32} : ∀ {S : List f_E}, w_vw F S → (∀ c i, 165 ≤ c → c ≤ 168 → i < S.length → F2 c i = F c i) → w_vw F2 S
  | [], _, _ => trivial
  | e :: S, h, hc => by
    refine ⟨?_, w_vw_cg h.2 (fun c i h1 h2 h3 => hc c i h1 h2 (by simp only [List.length_cons]; omega))⟩
    rw [hc 166 S.length (by decide) (by decide) (by simp), hc 165 S.length (by decide) (by decide) (by simp), hc 167 S.length (by decide) (by decide) (by simp), hc 168 S.length (by decide) (by decide) (by simp)]
    exact h.1
def f_ok : List f_E → Prop
  | [] => True
  | e :: S => (e.1 ≠ 9 → e.1 ≠ -1 → f_top S ≠ 9) ∧ f_ok S
def f_op : List f_E → Int
  | [] => 0
  | e :: S => (if 1 ≤ e.1 ∧ e.1 ≤ 7 then 0 else 1) + f_op S
theorem f_op_0 : ∀ (S : List f_E), 0 ≤ f_op S
  | [] => Int.le_refl 0
  | e :: S => by
    have := f_op_0 S
    rw [f_op]
    split <;> omega
def f_el (S : List f_E) : Prop := ∀ e, e ∈ S → e.1 = 9 ∨ e.1 = -1 ∨ e.1 = -2 ∨ e.1 = -3 ∨ (1 ≤ e.1 ∧ e.1 ≤ 7)
def f_pl (S : List f_E) (L : Nat) : Prop := ∀ e, e ∈ S → (e.1 = -2 → e.2.2.1 + 2 ≤ L) ∧ (e.1 = -3 → e.2.2.1 + 2 ≤ e.2.2.2 ∧ e.2.2.2 ≤ L)
theorem f_pl_le {S : List f_E} {L M : Nat} (h : f_pl S L) (h2 : L ≤ M) : f_pl S M := fun e he => ⟨fun h3 => by have := (h e he).1 h3; omega, fun h3 => by have := (h e he).2 h3; omega⟩
def r_vw (FI : Nat → Nat → Int32) (S : List f_E) (B : List Int) : Prop := FI 121 90 = Int32.ofNat S.length ∧ S.length ≤ 256 ∧ w_vw FI S ∧ f_ok S ∧ f_el S ∧ f_pl S B.length ∧ e_vw FI B
theorem r_vw_n {FI : Nat → Nat → Int32} {S : List f_E} {B : List Int} (h : r_vw FI S B) : (FI 121 90).toInt = S.length := by
  have := h.2.1
  rw [h.1, i_lit (by omega)]
theorem r_em {m : k_M} {a b : hS} {S : List f_E} {B c : List Int} (h : r_vw a.2.2.2.1 S B) (hk : kq m a b) (he : e_ap a.2.2.2.1 b.2.2.2.1 c) (h1 : k_in m.1 m.2.1 121 90 = false) (h2 : (k_no m 165 && k_no m 166 && k_no m 167 && k_no m 168) = true) : r_vw b.2.2.2.1 S (B ++ c) := by
  rw [Bool.and_eq_true, Bool.and_eq_true, Bool.and_eq_true] at h2
  refine ⟨by rw [kq_fld hk h1]; exact h.1, h.2.1, w_vw_cg h.2.2.1 (fun c i h3 h4 h5 => ?_), h.2.2.2.1, h.2.2.2.2.1, f_pl_le h.2.2.2.2.2.1 (by simp), he B h.2.2.2.2.2.2⟩
  have : c = 165 ∨ c = 166 ∨ c = 167 ∨ c = 168 := by omega
  rcases this with e | e | e | e
  · subst e; rw [kq_cell hk h2.1.1.1]
  · subst e; rw [kq_cell hk h2.1.1.2]
  · subst e; rw [kq_cell hk h2.1.2]
  · subst e; rw [kq_cell hk h2.2]
theorem r_fl {FI : Nat → Nat → Int32} {S : List f_E} {B : List Int} {k : Nat} {x : Int32} (h : r_vw FI S B) (h1 : k ≠ 73) (h2 : k ≠ 90) : r_vw (h_up FI 121 k x) S B :=
  ⟨by rw [h_up_x (by rintro ⟨-, e⟩; exact h2 e.symm)]; exact h.1, h.2.1, w_vw_cg h.2.2.1 (fun c i h3 h4 h5 => by rw [h_up_x (by omega)]), h.2.2.2.1, h.2.2.2.2.1, h.2.2.2.2.2.1, e_vw_f h.2.2.2.2.2.2 h1⟩
theorem r_pop {FI : Nat → Nat → Int32} {e : f_E} {S : List f_E} {B : List Int} (h : r_vw FI (e :: S) B) : r_vw (h_up FI 121 90 (FI 121 90 - 1)) S B := by
  have hl := h.2.1
  rw [List.length_cons] at hl
  refine ⟨?_, by omega, w_vw_cg h.2.2.1.2 (fun c i h3 h4 h5 => by rw [h_up_x (by omega)]), h.2.2.2.1.2, fun x hx => h.2.2.2.2.1 x (List.mem_cons_of_mem _ hx), fun x hx => h.2.2.2.2.2.1 x (List.mem_cons_of_mem _ hx), e_vw_f h.2.2.2.2.2.2 (by decide)⟩
  rw [h_up_eq]
  refine i_eqv ?_
  have hn := r_vw_n h
  rw [List.length_cons] at hn
  rw [i_sub hn (by decide : ((1 : Int32)).toInt = 1) (by omega) (by omega), i_lit (by omega)]
  omega
theorem r_ix {FI : Nat → Nat → Int32} {e : f_E} {S : List f_E} {B : List Int} (h : r_vw FI (e :: S) B) : (FI 121 90 - 1).toInt.toNat = S.length := by
  have hl := h.2.1
  have hn := r_vw_n h
  rw [List.length_cons] at hn hl
  rw [i_sub hn (by decide : ((1 : Int32)).toInt = 1) (by omega) (by omega)]
  omega
theorem r_tops {SH : Nat → Nat × Nat} {FI : Nat → Nat → Int32} {FL : Nat → Nat → Int64} {FR : Nat → Nat → Option Nat} {S : List f_E} {B : List Int} (h : r_vw FI S B) : (fX12_tops SH FI FL FR).toInt = f_top S := by
  unfold fX12_tops
  have hn := r_vw_n h
  cases S with
  | nil => rw [if_pos (by rw [hn]; rfl)]; decide
  | cons e S =>
    rw [List.length_cons] at hn
    rw [if_neg (by rw [hn]; omega), show FI 166 ((FI 121 90) - ((1 : Int32))).toInt.toNat = FI 166 S.length by rw [r_ix h]]
    exact h.2.2.1.1.1
theorem r_push {FI : Nat → Nat → Int32} {S : List f_E} {B : List Int} {c b : Int32} {p q : Nat} {y : List Int} (h : r_vw FI S B) (hl : S.length < 256) (hb : b.toInt = 9 ∨ b.toInt = -1 ∨ (1 ≤ b.toInt ∧ b.toInt ≤ 7 ∧ f_top S ≠ 9)) (hy : 1 ≤ b.toInt → y = w_by c.toInt ∧ 0 ≤ c.toInt ∧ c.toInt < 512 ∧ (b.toInt ≠ 9 → c.toInt < 256)) : r_vw (h_up (h_up (h_up FI 165 (FI 121 90).toInt.toNat c) 166 (FI 121 90).toInt.toNat b) 121 90 (FI 121 90 + 1)) ((b.toInt, y, p, q) :: S) B := by
  have hn := r_vw_n h
  have hi : (FI 121 90).toInt.toNat = S.length := by omega
  rw [hi]
  refine ⟨?_, by rw [List.length_cons]; omega, ⟨⟨?_, ?_, ?_, ?_⟩, ?_⟩, ⟨?_, h.2.2.2.1⟩, ?_, ?_, e_vw_f (e_vw_c (e_vw_c h.2.2.2.2.2.2 (by decide) (by decide)) (by decide) (by decide)) (by decide)⟩
  · rw [h_up_eq, h.1, List.length_cons]
    exact (Int32.ofNat_add _ _).symm
  · rw [h_up_x (by omega), h_up_eq]
  · intro h1
    rw [h_up_x (by omega), h_up_x (by omega), h_up_eq]
    exact hy h1
  · intro h1
    exfalso
    have h2 : b.toInt = -2 ∨ b.toInt = -3 := h1
    omega
  · intro h1
    exfalso
    have h2 : b.toInt = -3 := h1
    omega
  · exact w_vw_cg h.2.2.1 (fun c i h3 h4 h5 => by rw [h_up_x (by omega), h_up_x (by omega), h_up_x (by omega)])
  · intro h1 h2
    have h3 : b.toInt ≠ 9 := h1
    have h4 : b.toInt ≠ -1 := h2
    rcases hb with hb | hb | hb
    · omega
    · omega
    · exact hb.2.2
  · intro e he
    rcases List.mem_cons.mp he with rfl | he
    · show b.toInt = 9 ∨ b.toInt = -1 ∨ b.toInt = -2 ∨ b.toInt = -3 ∨ (1 ≤ b.toInt ∧ b.toInt ≤ 7)
      omega
    · exact h.2.2.2.2.1 e he
  · intro e he
    rcases List.mem_cons.mp he with rfl | he
    · refine ⟨fun h1 => ?_, fun h1 => ?_⟩
      · have h2 : b.toInt = -2 := h1
        omega
      · have h2 : b.toInt = -3 := h1
        omega
    · exact h.2.2.2.2.2.1 e he
section RS
variable {n sl : Nat} {SH : Nat → Nat × Nat} {FI : Nat → Nat → Int32} {FL : Nat → Nat → Int64} {FR : Nat → Nat → Option Nat} {v : Unit} {s : hS}
theorem em_emitted {a : Int32} (h : RX12_emitted a n sl SH FI FL FR v s) (h0 : 0 ≤ a.toInt) (h1 : a.toInt < 512) : e_ap FI s.2.2.2.1 (w_by a.toInt) := by
  have e256 : ((256 : Int32)).toInt = 256 := by decide
  unfold w_by
  rcases h with ⟨h2, h⟩ | ⟨h2, h⟩
  · obtain ⟨v1, n1, sl1, SH1, FI1, FL1, FR1, hc, h⟩ := h
    obtain ⟨-, rfl⟩ := h
    rw [e256] at h2
    rw [if_pos h2]
    exact em_emit hc (by omega)
  · obtain ⟨v1, n1, sl1, SH1, FI1, FL1, FR1, hc, h⟩ := h
    obtain ⟨v2, n2, sl2, SH2, FI2, FL2, FR2, hd, h⟩ := h
    obtain ⟨-, rfl⟩ := h
    rw [e256] at h2
    rw [if_neg h2]
    exact e_ap_tr (em_emit (b := 148) hc (by decide)) (em_emit (b := a.toInt - 256) hd (by rw [i_sub rfl e256 (by omega) (by omega)]; omega))
/-- the opened ones, counted -/
def o_vw (FI : Nat → Nat → Int32) (o0 : Int) (S : List f_E) (o : Int) : Prop := (FI 121 71).toInt = o ∧ o = o0 + f_op S ∧ 0 ≤ o0 ∧ o ≤ 12
theorem o_pop {FI : Nat → Nat → Int32} {o0 o : Int} {e : f_E} {S : List f_E} (h : o_vw FI o0 (e :: S) o) (h1 : ¬ (1 ≤ e.1 ∧ e.1 ≤ 7)) : (FI 121 71 - 1).toInt = o - 1 ∧ o - 1 = o0 + f_op S ∧ 0 ≤ o0 ∧ o - 1 ≤ 12 := by
  obtain ⟨h2, h3, h4, h5⟩ := h
  rw [f_op, if_neg h1] at h3
  have := f_op_0 S
  refine ⟨?_, by omega, h4, by omega⟩
  rw [i_sub h2 (by decide : ((1 : Int32)).toInt = 1) (by omega) (by omega)]
theorem rs_finished : ∀ (g n sl : Nat) (SH : Nat → Nat × Nat) (FI : Nat → Nat → Int32) (FL : Nat → Nat → Int64) (FR : Nat → Nat → Option Nat) (v : Unit) (s : hS) (S : List f_E) (o0 o : Int) (B : List Int), GX12_finished_0 g n sl SH FI FL FR v s → r_vw FI S B → o_vw FI o0 S o → r_vw s.2.2.2.1 (f_fin S o B).1 (f_fin S o B).2.2 ∧ o_vw s.2.2.2.1 o0 (f_fin S o B).1 (f_fin S o B).2.1 ∧ f_top (f_fin S o B).1 ≠ 9 := by
  intro g
  induction g with
  | zero => intro n sl SH FI FL FR v s S o0 o B h; exact h.elim
  | succ g ih =>
    intro n sl SH FI FL FR v s S o0 o B h hr ho
    have ht := r_tops (SH := SH) (FL := FL) (FR := FR) hr
    have e9 : ((9 : Int32)).toInt = 9 := by decide
    rcases h with ⟨h1, h⟩ | ⟨h1, h⟩
    · obtain ⟨hp, h⟩ := h
      obtain ⟨v1, n1, sl1, SH1, FI1, FL1, FR1, hc, h⟩ := h
      rw [ht, e9] at h1
      cases S with
      | nil => exact absurd h1 (by decide)
      | cons e S =>
        have h9 : e.1 = 9 := h1
        have hw := (hr.2.2.1.1.2.1 (by omega))
        have hix := r_ix hr
        have hr1 := r_fl (k := 71) (x := FI 121 71 - 1) (r_pop hr) (by decide) (by decide)
        have ho1 := o_pop ho (by omega)
        have hk := kX12_emitted hc
        have hcc : (FI 165 ((FI 121 90) - ((1 : Int32))).toInt.toNat) = FI 165 S.length := by rw [hix]
        have he := em_emitted hc (by rw [hcc]; exact hw.2.1) (by rw [hcc]; exact hw.2.2.1)
        rw [hcc, ← hw.1] at he
        have hr2 := r_em (a := (n, sl, SH, _, FL, FR)) hr1 hk he (by decide) (by decide)
        have ho2 : o_vw FI1 o0 S (o - 1) := by
          refine ⟨?_, ho1.2⟩
          rw [show FI1 121 71 = _ from kq_fld hk (by decide)]
          try dsimp only
          rw [h_up_eq]
          exact ho1.1
        have eF : f_fin (e :: S) o B = f_fin S (o - 1) (B ++ e.2.1) := by simp only [f_fin, if_pos h9]
        rw [eF]
        exact ih n1 sl1 SH1 FI1 FL1 FR1 v s S o0 (o - 1) (B ++ e.2.1) h hr2 ho2
    · obtain ⟨-, rfl⟩ := h
      rw [ht, e9] at h1
      rw [f_fin_stop h1]
      exact ⟨hr, ho, h1⟩
theorem rs_reduced {b : Int32} (hb : 1 ≤ b.toInt) : ∀ (g n sl : Nat) (SH : Nat → Nat × Nat) (FI : Nat → Nat → Int32) (FL : Nat → Nat → Int64) (FR : Nat → Nat → Option Nat) (v : Unit) (s : hS) (S : List f_E) (o0 o : Int) (B : List Int), GX12_reduced_0 b g n sl SH FI FL FR v s → r_vw FI S B → o_vw FI o0 S o → f_top S ≠ 9 → r_vw s.2.2.2.1 (f_pop b.toInt S B).1 (f_pop b.toInt S B).2 ∧ o_vw s.2.2.2.1 o0 (f_pop b.toInt S B).1 o ∧ f_top (f_pop b.toInt S B).1 ≠ 9 ∧ f_top (f_pop b.toInt S B).1 < b.toInt := by
  intro g
  induction g with
  | zero => intro n sl SH FI FL FR v s S o0 o B h; exact h.elim
  | succ g ih =>
    intro n sl SH FI FL FR v s S o0 o B h hr ho h9
    have ht := r_tops (SH := SH) (FL := FL) (FR := FR) hr
    rcases h with ⟨h1, h⟩ | ⟨h1, h⟩
    · obtain ⟨-, rfl⟩ := h
      rw [ht] at h1
      rw [f_pop_stop h1]
      exact ⟨hr, ho, h9, h1⟩
    · obtain ⟨hp, h⟩ := h
      obtain ⟨v1, n1, sl1, SH1, FI1, FL1, FR1, hc, h⟩ := h
      rw [ht] at h1
      cases S with
      | nil => exact absurd (show b.toInt ≤ -11 by have : f_top [] = -11 := rfl; omega) (by omega)
      | cons e S =>
        have h2 : f_top (e :: S) = e.1 := rfl
        have hel := hr.2.2.2.2.1 e (by simp)
        have hw := (hr.2.2.1.1.2.1 (by omega))
        have hix := r_ix hr
        have hr1 := r_pop hr
        have hk := kX12_emit hc
        have hcc : (FI 165 ((FI 121 90) - ((1 : Int32))).toInt.toNat) = FI 165 S.length := by rw [hix]
        have h256 := hw.2.2.2 (by omega)
        have he := em_emit (b := (FI 165 S.length).toInt) hc (by rw [hcc]; have := hw.2.1; omega)
        have hwb : [(FI 165 S.length).toInt] = e.2.1 := by rw [hw.1, w_by, if_pos h256]
        rw [hwb] at he
        have hr2 := r_em (a := (n, sl, SH, _, FL, FR)) hr1 hk he (by decide) (by decide)
        have ho2 : o_vw FI1 o0 S o := by
          obtain ⟨o1, o2, o3, o4⟩ := ho
          rw [f_op, if_pos (by omega)] at o2
          refine ⟨?_, by omega, o3, o4⟩
          rw [show FI1 121 71 = _ from kq_fld hk (by decide)]
          try dsimp only
          rw [h_up_x (by decide)]
          exact o1
        have e3 : f_pop b.toInt (e :: S) B = f_pop b.toInt S (B ++ e.2.1) := by simp only [f_pop, if_pos (show b.toInt ≤ e.1 by omega)]
        rw [e3]
        exact ih n1 sl1 SH1 FI1 FL1 FR1 v s S o0 o (B ++ e.2.1) h hr2 ho2 (hr.2.2.2.1.1 (by omega) (by omega))
end RS
