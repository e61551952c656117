/-! THE REFERENCE'S MEANINGS: an operand, an operator, an expression. -/
theorem mk_out {L : List (Nat × Nat)} {A : List Nat} {c k : Nat} (h1 : L.all (fun e => decide (e.1 = 121 ∧ ((29 ≤ e.2 ∧ e.2 ≤ 44) ∨ (90 ≤ e.2 ∧ e.2 ≤ 93) ∨ e.2 = 101 ∨ e.2 = 104))) = true) (h2 : A.all (fun a => decide ((127 ≤ a ∧ a ≤ 142) ∨ a = 165 ∨ a = 166 ∨ (173 ≤ a ∧ a ≤ 175))) = true) (h : (c < 121 ∨ (121 < c ∧ c < 127) ∨ (142 < c ∧ c < 165) ∨ (166 < c ∧ c < 173) ∨ 175 < c) ∨ (c = 121 ∧ (k < 29 ∨ (44 < k ∧ k < 90) ∨ (93 < k ∧ k < 101) ∨ (101 < k ∧ k < 104) ∨ 104 < k))) : k_in L A c k = false := by
  cases hq : k_in L A c k with
  | false => rfl
  | true =>
    exfalso
    unfold k_in at hq
    rw [Bool.or_eq_true] at hq
    rcases hq with q | q
    · have q := List.contains_iff_mem.mp q
      have := of_decide_eq_true (List.all_eq_true.mp h1 (c, k) q)
      (try dsimp only at this)
      omega
    · have q := List.contains_iff_mem.mp q
      have := of_decide_eq_true (List.all_eq_true.mp h2 c q)
      omega
def mk_m (m : k_M) : Bool := m.1.all (fun e => decide (e.1 = 121 ∧ ((29 ≤ e.2 ∧ e.2 ≤ 44) ∨ (90 ≤ e.2 ∧ e.2 ≤ 93) ∨ e.2 = 101 ∨ e.2 = 104))) && m.2.1.all (fun a => decide ((127 ≤ a ∧ a ≤ 142) ∨ a = 165 ∨ a = 166 ∨ (173 ≤ a ∧ a ≤ 175))) && m.2.2.1.all (fun e => decide (e.1 = 121 ∧ ((29 ≤ e.2 ∧ e.2 ≤ 44) ∨ (90 ≤ e.2 ∧ e.2 ≤ 93) ∨ e.2 = 101 ∨ e.2 = 104))) && m.2.2.2.all (fun a => decide ((127 ≤ a ∧ a ≤ 142) ∨ a = 165 ∨ a = 166 ∨ (173 ≤ a ∧ a ≤ 175)))
/-- two states: what stands to the right stays -/
theorem st_c {n n2 sl sl2 : Nat} {SH S2 : Nat → Nat × Nat} {FI F2 : Nat → Nat → Int32} {FL L2 : Nat → Nat → Int64} {FR R2 : Nat → Nat → Option Nat} (h : ((n2, sl2, S2, F2, L2, R2) : hS) = (n, sl, SH, FI, FL, FR)) : n = n2 ∧ sl = sl2 ∧ SH = S2 ∧ FI = F2 ∧ FL = L2 ∧ FR = R2 := by
  cases h
  exact ⟨rfl, rfl, rfl, rfl, rfl, rfl⟩
section MO
variable {n sl : Nat} {SH : Nat → Nat × Nat} {FI F2 F3 : Nat → Nat → Int32} {FL L2 L3 : Nat → Nat → Int64} {FR : Nat → Nat → Option Nat} {st : hS} {E : ms_E} {fb : xX} {u : Unit} {K W : Nat → Int} {T t : Nat} {S : List mq_E} {q : mq_Q} {m m2 : Int ⊕ Bool} {V R : List (Option Int64)}
theorem mk_kq {m : k_M} (h : kq m (n, sl, SH, FI, FL, FR) st) (m1 : mk_m m = true) : ∃ F2 L2, st = (n, sl, SH, F2, L2, FR) ∧ mk FI FL F2 L2 := by
  obtain ⟨n2, sl2, S2, F2, L2, R2⟩ := st
  obtain ⟨h1, h2, h3, h4, h5, h6, -⟩ := h
  (try dsimp only at h1 h2 h3 h4 h5 h6)
  subst h1; subst h2; subst h3; subst h4
  unfold mk_m at m1
  rw [Bool.and_eq_true, Bool.and_eq_true, Bool.and_eq_true] at m1
  obtain ⟨⟨⟨a1, a2⟩, a3⟩, a4⟩ := m1
  exact ⟨F2, L2, rfl, fun c hc => ⟨funext fun k => h5 c k (mk_out a1 a2 (Or.inl hc)), funext fun k => h6 c k (mk_out a3 a4 (Or.inl hc))⟩, fun k hk => ⟨h5 121 k (mk_out a1 a2 (Or.inr ⟨rfl, hk⟩)), h6 121 k (mk_out a3 a4 (Or.inr ⟨rfl, hk⟩))⟩⟩
theorem mk_st {m : k_M} (h : kq m (n, sl, SH, FI, FL, FR) (n, sl, SH, F2, L2, FR)) (m1 : mk_m m = true) : mk FI FL F2 L2 := by
  obtain ⟨F3, L3, e, h3⟩ := mk_kq h m1
  cases e
  exact h3
theorem mt_mk (h : mtk K W T FI FL) (g : mk FI FL F2 L2) : mtk K W T F2 L2 := fun i hi => by
  rw [(g.1 152 (by omega)).1, (g.1 153 (by omega)).2]
  exact h i hi
theorem mh_xr (h : mh FI FL T t S q) (x : xr FI FL F2 L2) : mh F2 L2 T t S q := by
  obtain ⟨h1, h2, h3, h4, h5, h6⟩ := h
  refine ⟨by rw [(x.2 92 (by omega)).1]; exact h1, by rw [(x.2 90 (by omega)).1]; exact h2, lv_me h3 (fun r i hr _ => by rw [(x.1 r (by omega)).1]) mm_id, by rw [(x.2 101 (by omega)).1]; exact h4, lv_mz h5 (fun i _ => by rw [(x.1 173 (by omega)).2]), ?_⟩
  unfold mm at h6 ⊢
  rw [(x.2 93 (by omega)).1, (x.2 104 (by omega)).1]
  exact h6
theorem rE_xr (h : rE FI FL SH E) (g : xr FI FL F2 L2) : rE F2 L2 SH E := rE_fr h (g.1 123 (by omega)).1 (g.1 124 (by omega)).1 (g.1 125 (by omega)).1 (fun k hk => (g.2 k (Or.inl hk)).1) (fun k hk => (g.2 k (Or.inl hk)).2) (g.1 122 (by omega)).2
/-- FRAME's base for means: known, and its faults are some -/
def xfq (E : ms_E) (fb : xX) : Prop := x_fb E fb ∧ ∀ e, fb = .inl e → e ≠ 0
theorem mo_bases (hS : h_S n SH) (hE : rE FI FL SH E) (hf : xfq E fb) (hh : mh FI FL T t S (V, .inr true)) (h : RX12_bases n sl SH FI FL FR u st) : ∃ F1 F2 L2, st = (n, sl, SH, F2, L2, FR) ∧ mh F1 L2 T t S (V, .inr true) ∧ rE F2 L2 SH E ∧ (∀ c k, ¬ (c = 121 ∧ k = 93) → F2 c k = F1 c k) ∧ (match fb with
    | .inl e => (F2 121 93).toInt = e ∧ e ≠ 0
    | .inr v => L2 121 39 = v ∧ F2 121 93 = F1 121 93) := by
  obtain ⟨hx, hne⟩ := hf
  obtain ⟨f1, f2, f3⟩ := hE.2.2.2.1
  rcases h with ⟨h0, -, e⟩ | ⟨h0, h⟩
  · rw [f1, show ((-1 : Int32)).toInt = -1 by first | decide | (simp; done) | (simp [ms_0]; done)] at h0
    have efb := hx.1 h0
    subst efb
    refine ⟨FI, _, _, e, hh, rE_mk hE (mk_f mk_rf (by omega)), fun c k hn => h_up_x hn, ?_⟩
    show (h_up FI 121 93 (11 : Int32) 121 93).toInt = 11 ∧ (11 : Int) ≠ 0
    exact ⟨by rw [h_up_eq]; (first | decide | (simp; done) | (simp [ms_0]; done)), by first | decide | (simp; done) | (simp [ms_0]; done)⟩
  · rw [f1, show ((-1 : Int32)).toInt = -1 by first | decide | (simp; done) | (simp [ms_0]; done)] at h0
    obtain ⟨u0, n0, sl0, SH0, FI0, FL0, FR0, ⟨-, eb⟩, -, v3, n3, sl3, SH3, FI3, FL3, FR3, hx3, -, e⟩ := h
    cases eb
    have k0 : mk FI FL (h_up (h_up (h_up (h_up (h_up FI 121 30 (1000 : Int32)) 121 31 ((0 : Int32))) 121 32 ((0 : Int32))) 121 29 ((0 : Int32))) 121 33 ((-1 : Int32))) FL := mk_f (mk_f (mk_f (mk_f (mk_f mk_rf (by omega)) (by omega)) (by omega)) (by omega)) (by omega)
    have g5 : (h_up (h_up (h_up (h_up (h_up FI 121 30 (1000 : Int32)) 121 31 ((0 : Int32))) 121 32 ((0 : Int32))) 121 29 ((0 : Int32))) 121 33 ((-1 : Int32))) 121 5 = FI 121 5 := (k0.2 5 (by omega)).1
    have g125 : (h_up (h_up (h_up (h_up (h_up FI 121 30 (1000 : Int32)) 121 31 ((0 : Int32))) 121 32 ((0 : Int32))) 121 29 ((0 : Int32))) 121 33 ((-1 : Int32))) 125 = FI 125 := (k0.1 125 (by omega)).1
    have g30 : ((h_up (h_up (h_up (h_up (h_up FI 121 30 (1000 : Int32)) 121 31 ((0 : Int32))) 121 32 ((0 : Int32))) 121 29 ((0 : Int32))) 121 33 ((-1 : Int32))) 121 30).toInt = ((1000 : Nat) : Int) := by
      rw [h_up_x (by first | decide | (simp; done) | (simp [ms_0]; done)), h_up_x (by first | decide | (simp; done) | (simp [ms_0]; done)), h_up_x (by first | decide | (simp; done) | (simp [ms_0]; done)), h_up_x (by first | decide | (simp; done) | (simp [ms_0]; done)), h_up_eq]
      decide
    have g29 : ((h_up (h_up (h_up (h_up (h_up FI 121 30 (1000 : Int32)) 121 31 ((0 : Int32))) 121 32 ((0 : Int32))) 121 29 ((0 : Int32))) 121 33 ((-1 : Int32))) 121 29).toInt = 0 := by
      rw [h_up_x (by first | decide | (simp; done) | (simp [ms_0]; done)), h_up_eq]
      decide
    have hh0 : mh (h_up (h_up (h_up (h_up (h_up FI 121 30 (1000 : Int32)) 121 31 ((0 : Int32))) 121 32 ((0 : Int32))) 121 29 ((0 : Int32))) 121 33 ((-1 : Int32))) FL T t S (V, .inr true) := mh_f (mh_f (mh_f (mh_f (mh_f hh (by first | decide | (simp; done) | (simp [ms_0]; done))) (by first | decide | (simp; done) | (simp [ms_0]; done))) (by first | decide | (simp; done) | (simp [ms_0]; done))) (by first | decide | (simp; done) | (simp [ms_0]; done))) (by first | decide | (simp; done) | (simp [ms_0]; done))
    have hE0 := rE_mk hE k0
    rw [g5, g125] at hx3
    generalize h_up (h_up (h_up (h_up (h_up FI 121 30 (1000 : Int32)) 121 31 ((0 : Int32))) 121 32 ((0 : Int32))) 121 29 ((0 : Int32))) 121 33 ((-1 : Int32)) = FB at hx3 k0 g5 g125 g30 g29 hh0 hE0
    have hk15 : (ms_fr E).toNat < 16 := by omega
    obtain ⟨l1, l2, l3⟩ := hE0.2.2.1 _ hk15
    rw [g125] at l1
    have e5 : (FI 121 5).toInt.toNat = (ms_fr E).toNat := by omega
    rw [e5] at hx3
    have a2 : ((600 : Int32) * FI 121 5).toInt = ((600 * (ms_fr E).toNat : Nat) : Int) := by
      rw [i_mul (by first | decide | (simp; done) | (simp [ms_0]; done) : ((600 : Int32)).toInt = 600) f1 (by omega) (by omega)]
      omega
    have a3 : ((600 : Int32) * FI 121 5 + FI 125 (ms_fr E).toNat).toInt = ((600 * (ms_fr E).toNat + (ms_ex E (ms_fr E).toNat).length : Nat) : Int) := by
      rw [i_add a2 l1 (by omega) (by omega)]
      omega
    obtain ⟨qq, r1, F4, L4, r2, r3, -, -, -, -, -, -, -, r4⟩ := r_exec1 l3 l2 a2 a3 hE0 g30 (by first | decide | (simp; done) | (simp [ms_0]; done)) g29 hx3
    cases r2
    have efb : fb = x_en E qq := hx.2 h0 qq r1
    rw [← efb] at r4
    refine ⟨_, _, _, e, mh_xr hh0 r3, ?_, fun c k hn => h_up_x hn, ?_⟩
    · exact rE_mk (rE_xr hE0 r3) (mk_f mk_rf (by omega))
    · match fb, r4, hne with
      | .inl e9, r4, hne =>
        have r4 : v3.toInt = e9 := r4
        exact ⟨by rw [h_up_eq]; exact r4, hne e9 rfl⟩
      | .inr v9, r4, hne =>
        have r4 : v3.toInt = 0 ∧ FL3 121 39 = v9 := r4
        refine ⟨r4.2, ?_⟩
        rw [h_up_eq]
        exact i_eqv (by rw [r4.1]; exact (mh_xr hh0 r3).2.2.2.2.2.1.symm)
/-- what stands ahead of one -/
theorem mo_55 {v : Int32} (hS : h_S n SH) (hT : T ≤ 1001) (ht : t + 1 ≤ T) (hg : tk_rg K W) (htk : mtk K W T FI FL) (hu : lc_uy (K t) (W t) = true) (hh : mh FI FL T t S q) (h : RX12_meansOperand_55 (FI 152 t) (FL 153 t) n sl SH FI FL FR v st) : ∃ F2, st = (n, sl, SH, F2, FL, FR) ∧ mh F2 FL T (t + 1) ((9, mq_c (K t) (W t), false, false) :: S) q ∧ v = 0 := by
  obtain ⟨k1, k2⟩ := htk t (by omega)
  have hu2 : K t = 4 ∨ (K t = 5 ∧ (W t = 45 ∨ W t = 126)) ∨ (K t = 2 ∧ W t = 7) := of_decide_eq_true hu
  have c9 : ((9 : Int32)).toInt = 9 := by first | decide | (simp; done) | (simp [ms_0]; done)
  have fin : ∀ {c : Int32} {v1 : Unit} {n1 sl1 : Nat} {SH1 : Nat → Nat × Nat} {FI1 : Nat → Nat → Int32} {FL1 : Nat → Nat → Int64} {FR1 : Nat → Nat → Option Nat}, c.toInt = mq_c (K t) (W t) → (c.toInt = 31 ∨ c.toInt = 32 ∨ c.toInt = 155 ∨ (257 ≤ c.toInt ∧ c.toInt ≤ 264)) → RX12_later c (9 : Int32) n sl SH FI FL FR v1 (n1, sl1, SH1, FI1, FL1, FR1) → v = 0 → st = (n1, sl1, SH1, h_up FI1 121 92 (FI1 121 92 + (1 : Int32)), FL1, FR1) → ∃ F2, st = (n, sl, SH, F2, FL, FR) ∧ mh F2 FL T (t + 1) ((9, mq_c (K t) (W t), false, false) :: S) q ∧ v = 0 := by
    intro c v1 n1 sl1 SH1 FI1 FL1 FR1 e1 e2 hl e3 e4
    obtain ⟨F4, r4, r5⟩ := mo_later (w1 := false) (w2 := false) hS hh (by first | decide | (simp; done) | (simp [ms_0]; done)) (by first | decide | (simp; done) | (simp [ms_0]; done)) (fun _ => e2) hl
    cases r4
    rw [e1, c9] at r5
    exact ⟨_, e4, mh_t r5 (mh_n r5 hT) ht, e3⟩
  unfold mq_c at fin ⊢
  unfold RX12_meansOperand_55 at h
  rw [k1, show ((4 : Int32)).toInt = 4 by first | decide | (simp; done) | (simp [ms_0]; done)] at h
  rcases h with ⟨h4, h⟩ | ⟨h4, h⟩
  · have hr := (hg t).2 h4
    have e : ((256 : Int32) + (FL 153 t).toInt32).toInt = 256 + W t := i_add (by first | decide | (simp; done) | (simp [ms_0]; done) : ((256 : Int32)).toInt = 256) (l_2i k2 (by omega) (by omega)) (by omega) (by omega)
    obtain ⟨v1, n1, sl1, SH1, FI1, FL1, FR1, hl, e1, e2⟩ := h
    rw [if_pos h4] at fin ⊢
    exact fin e (by omega) hl e1 e2
  try rw [k1] at h
  rw [show ((2 : Int32)).toInt = 2 by first | decide | (simp; done) | (simp [ms_0]; done)] at h
  rw [if_neg h4] at fin ⊢
  rcases h with ⟨h2, h⟩ | ⟨h2, h⟩
  · obtain ⟨v1, n1, sl1, SH1, FI1, FL1, FR1, hl, e1, e2⟩ := h
    rw [if_pos h2] at fin ⊢
    exact fin (by first | decide | (simp; done) | (simp [ms_0]; done)) (by first | decide | (simp; done) | (simp [ms_0]; done)) hl e1 e2
  rw [k2, show ((45 : Int64)).toInt = 45 by first | decide | (simp; done) | (simp [ms_0]; done)] at h
  rw [if_neg h2] at fin ⊢
  rcases h with ⟨h5, h⟩ | ⟨h5, h⟩
  · obtain ⟨v1, n1, sl1, SH1, FI1, FL1, FR1, hl, e1, e2⟩ := h
    rw [if_pos h5] at fin ⊢
    exact fin (by first | decide | (simp; done) | (simp [ms_0]; done)) (by first | decide | (simp; done) | (simp [ms_0]; done)) hl e1 e2
  · obtain ⟨v1, n1, sl1, SH1, FI1, FL1, FR1, hl, e1, e2⟩ := h
    rw [if_neg h5] at fin ⊢
    exact fin (by first | decide | (simp; done) | (simp [ms_0]; done)) (by first | decide | (simp; done) | (simp [ms_0]; done)) hl e1 e2
theorem lc_at_i {t t1 : Nat} {c : List Int} (h : lc_at K W false t = some (t1, c)) : K t = 3 ∨ (K t = 2 ∧ W t = 5) ∨ (K t = 2 ∧ W t = 6) ∨ (K t = 5 ∧ W t = 37 ∧ K (t + 1) = 3 ∧ W (t + 1) ≤ 31) ∨ (K t = 2 ∧ W t = 4) := by
  unfold lc_at at h
  by_cases h3 : K t = 3
  · exact Or.inl h3
  rw [if_neg h3] at h
  by_cases h5 : K t = 2 ∧ W t = 5
  · exact Or.inr (Or.inl h5)
  rw [if_neg h5] at h
  by_cases h6 : K t = 2 ∧ W t = 6
  · exact Or.inr (Or.inr (Or.inl h6))
  rw [if_neg h6] at h
  cases hb : lc_bs K W t with
  | none => rw [hb] at h; cases h
  | some p =>
    unfold lc_bs at hb
    by_cases h7 : K t = 5 ∧ W t = 37
    · rw [if_pos h7] at hb
      by_cases h8 : K (t + 1) = 3 ∧ W (t + 1) ≤ 31
      · exact Or.inr (Or.inr (Or.inr (Or.inl ⟨h7.1, h7.2, h8.1, h8.2⟩)))
      · rw [if_neg h8] at hb; cases hb
    · rw [if_neg h7] at hb
      by_cases h9 : K t = 2 ∧ W t = 4
      · exact Or.inr (Or.inr (Or.inr (Or.inr h9)))
      · rw [if_neg h9] at hb; cases hb
end MO
