/-! THE CLASS'S means. -/
section CMN
variable {n sl : Nat} {SH : Nat → Nat × Nat} {FI F2 : Nat → Nat → Int32} {FL L2 : Nat → Nat → Int64} {FR R2 : Nat → Nat → Option Nat} {st : hS} {E : ms_E} {fb : xX} {u : Unit} {v : Int32}
/-- a variable's tree: its cell, its rows, its bytes -/
def v_ms (F : Nat → Nat → Int32) (L : Nat → Nat → Int64) (R : Nat → Nat → Option Nat) (SH : Nat → Nat × Nat) (x m : Nat) (C : List Int) : Prop := 176 ≤ x ∧ R x 2 = some (x + 1) ∧ R x 3 = some (x + 2) ∧ R x 4 = some (x + 3) ∧ ((m = 0 ∧ (F x 5).toInt = 0 ∧ ∃ a f, R (x + 3) 0 = some a ∧ w_ls F L R SH f (some a) C) ∨ (∃ Q : List r_Q, m = Q.length ∧ 1 ≤ m ∧ m ≤ 8 ∧ (F x 5).toInt = (m : Int) ∧ C = rw_fl Q ++ (lc_by 0 8 ++ lc_by 0 8) ∧ ∀ j q, Q[j]? = some q → (L (x + 1) j).toInt = q.1 ∧ 0 ≤ q.1 ∧ (L (x + 2) j).toInt = q.2.1 ∧ 0 ≤ q.2.1 ∧ ∃ a f, R (x + 3) j = some a ∧ w_ls F L R SH f (some a) q.2.2))
theorem ms_lt_c {a b : Int64} : (fX11_isBelow a b SH FI FL FR).toInt = 0 ↔ ms_lt a b = false := by
  unfold fX11_isBelow ms_lt
  by_cases h : (a + (-9223372036854775808 : Int64)).toInt < (b + (-9223372036854775808 : Int64)).toInt
  · rw [if_pos h, decide_eq_true h]
    exact ⟨fun e => absurd e (by first | decide | (simp; done) | (simp [ms_0]; done)), fun e => by cases e⟩
  · rw [if_neg h, decide_eq_false h]
    exact ⟨fun _ => rfl, fun _ => by first | decide | (simp; done) | (simp [ms_0]; done)⟩
theorem mrws_drop {pc : Int64} {r : Int ⊕ ms_Q} {Q : List r_Q} {j : Nat} {q : r_Q} (hq : Q[j]? = some q) (h : mrws E fb pc (Q.drop j) r) : (mrow pc q = true ∧ mloc E fb q.2.2 r) ∨ (¬ mrow pc q = true ∧ mrws E fb pc (Q.drop (j + 1)) r) := by
  obtain ⟨hl, e⟩ := List.getElem?_eq_some_iff.mp hq
  rw [List.drop_eq_getElem_cons hl, e] at h
  exact h
/-- which row holds -/
theorem c_pf16 {x : Nat} {pc : Int64} {Q : List r_Q} {r : Int ⊕ ms_Q} {w : Option Nat} (hx2 : FR x 2 = some (x + 1)) (hx3 : FR x 3 = some (x + 2)) (hx4 : FR x 4 = some (x + 3)) (h5 : (FI x 5).toInt = (Q.length : Int)) (h8 : Q.length ≤ 8) (hQ : ∀ j q, Q[j]? = some q → (FL (x + 1) j).toInt = q.1 ∧ 0 ≤ q.1 ∧ (FL (x + 2) j).toInt = q.2.1 ∧ 0 ≤ q.2.1 ∧ ∃ a f, FR (x + 3) j = some a ∧ w_ls FI FL FR SH f (some a) q.2.2) : ∀ (g j : Nat) (l3 : Int32), l3.toInt = j → j ≤ Q.length → mrws E fb pc (Q.drop j) r → GX2_placeFor_16 (some x) pc g l3 n sl SH FI FL FR w st → st = (n, sl, SH, FI, FL, FR) ∧ ∃ f code, w_ls FI FL FR SH f w code ∧ mloc E fb code r ∧ (code = [] ∨ ∃ q, q ∈ Q ∧ code = q.2.2) := by
  intro g
  induction g with
  | zero => intro j l3 _ _ _ h; exact h.elim
  | succ g ih =>
    intro j l3 hj hjl hr h
    have none_r : ∀ {w0 : Option Nat}, Q.length ≤ j → w = none → st = (n, sl, SH, FI, FL, FR) → st = (n, sl, SH, FI, FL, FR) ∧ ∃ f code, w_ls FI FL FR SH f w code ∧ mloc E fb code r ∧ (code = [] ∨ ∃ q, q ∈ Q ∧ code = q.2.2) := by
      intro w0 hle ew es
      rw [List.drop_eq_nil_of_le hle] at hr
      have hr : r = .inr (false, [(ms_0, 0, 0)]) := hr
      subst ew
      exact ⟨es, 1, [], rfl, Or.inl ⟨0, .inr ms_0, Or.inr (Or.inr (Or.inr (Or.inr ⟨rfl, rfl, rfl⟩))), hr⟩, Or.inl rfl⟩
    obtain ⟨c1, e1, h⟩ := h
    cases e1
    rw [hj, h5] at h
    rcases h with ⟨b1, h⟩ | ⟨b1, ew, es⟩
    · have h := P_p h (by rw [show ((8 : Int32)).toInt = 8 by first | decide | (simp; done) | (simp [ms_0]; done)]; omega)
      obtain ⟨q, hq⟩ := lx_i (L := Q) (i := j) (by omega)
      obtain ⟨q1, q2, q3, q4, a, f, q5, q6⟩ := hQ j q hq
      have hr2 := mrws_drop hq hr
      have e1 : Int64.ofInt q.1 = FL (x + 1) j := by rw [← q1, l_oi]
      have e2 : Int64.ofInt q.2.1 = FL (x + 2) j := by rw [← q3, l_oi]
      have em : mrow pc q = (!(ms_lt pc (FL (x + 1) j)) && ms_lt pc (FL (x + 2) j)) := by
        unfold mrow
        rw [e1, e2]
      have nj : (l3 + (1 : Int32)).toInt = ((j + 1 : Nat) : Int) := by
        rw [i_add hj (by first | decide | (simp; done) | (simp [ms_0]; done) : ((1 : Int32)).toInt = 1) (by omega) (by omega)]
        omega
      have no : ¬ mrow pc q = true → GX2_placeFor_16 (some x) pc g (l3 + (1 : Int32)) n sl SH FI FL FR w st → st = (n, sl, SH, FI, FL, FR) ∧ ∃ f code, w_ls FI FL FR SH f w code ∧ mloc E fb code r ∧ (code = [] ∨ ∃ q, q ∈ Q ∧ code = q.2.2) := by
        intro hn h
        exact ih (j + 1) _ nj (by omega) (hr2.elim (fun e => absurd e.1 hn) (fun e => e.2)) h
      obtain ⟨c4, e4, c5, e5, -, h⟩ := h
      cases e4
      rw [hx2] at e5
      cases e5
      (try rw [show ((j : Int)).toNat = j by omega] at h)
      rcases h with ⟨d1, h⟩ | ⟨d1, h⟩
      · rw [ms_lt_c] at d1
        obtain ⟨c8, e8, c9, e9, -, h⟩ := h
        cases e8
        rw [hx3] at e9
        cases e9
        (try rw [show ((j : Int)).toNat = j by omega] at h)
        rcases h with ⟨d2, h⟩ | ⟨d2, h⟩
        · rw [ms_lt_c] at d2
          exact no (by rw [em, d1, d2]; (first | decide | (simp; done) | (simp [ms_0]; done))) h
        · have d2 : ms_lt pc (FL (x + 2) j) = true := by
            cases e : ms_lt pc (FL (x + 2) j) with
            | true => rfl
            | false => exact absurd (ms_lt_c.mpr e) d2
          have hy : mrow pc q = true := by rw [em, d1, d2]; (first | decide | (simp; done) | (simp [ms_0]; done))
          have hr2 := hr2.elim (fun e => e.2) (fun e => absurd hy e.1)
          obtain ⟨c12, e12, c13, e13, -, ew, es⟩ := h
          cases e12
          rw [hx4] at e13
          cases e13
          (try rw [show ((j : Int)).toNat = j by omega] at ew)
          rw [q5] at ew
          subst ew
          exact ⟨es, f, q.2.2, q6, hr2, Or.inr ⟨q, List.mem_of_getElem? hq, rfl⟩⟩
      · have d1 : ms_lt pc (FL (x + 1) j) = true := by
          cases e : ms_lt pc (FL (x + 1) j) with
          | true => rfl
          | false => exact absurd (ms_lt_c.mpr e) d1
        exact no (by rw [em, d1]; simp) h
    · exact none_r (w0 := none) (by omega) ew es
theorem rw_fl_len {Q : List r_Q} {q : r_Q} : q ∈ Q → q.2.2.length ≤ (rw_fl Q).length := by
  induction Q with
  | nil => intro h; simp at h
  | cons p P ih =>
    intro h
    rw [rw_fl_c]
    simp only [List.length_append]
    rcases List.mem_cons.mp h with h | h
    · rw [h]; omega
    · have := ih h
      omega
theorem c_placeFor {x m : Nat} {pc : Int64} {C : List Int} {r : Int ⊕ ms_Q} {w : Option Nat} (hv : v_ms FI FL FR SH x m C) (hr : mvar E fb pc m C r) (hC : C.length ≤ 60000) (h : RX2_placeFor (some x) pc n sl SH FI FL FR w st) : st = (n, sl, SH, FI, FL, FR) ∧ ∃ f code, w_ls FI FL FR SH f w code ∧ mloc E fb code r ∧ code.length ≤ 60000 := by
  obtain ⟨h176, hx2, hx3, hx4, hv⟩ := hv
  obtain ⟨c1, e1, h⟩ := h
  cases e1
  rcases hv with ⟨m0, f0, a, f, ha, hw⟩ | ⟨Q, q0, q1, q2, q3, q4, q5⟩
  · obtain ⟨c3, e3, c4, e4, -, ew, es⟩ := P_p h f0
    cases e3
    rw [hx4] at e4
    cases e4
    rw [ha] at ew
    subst ew
    rcases hr with ⟨-, hr⟩ | ⟨P, p0, p1, -⟩
    · exact ⟨es, f, C, hw, hr, hC⟩
    · exfalso; omega
  · obtain ⟨g, h⟩ := P_n h (by rw [q3]; omega)
    rcases hr with ⟨p0, -⟩ | ⟨P, p0, p1, p2, p3, p4⟩
    · exfalso; omega
    · have hQok : ∀ q, q ∈ Q → 0 ≤ q.1 ∧ q.1 ≤ 9223372036854775807 ∧ 0 ≤ q.2.1 ∧ q.2.1 ≤ 9223372036854775807 ∧ q.2.2.length ≤ 60000 := by
        intro q hq
        obtain ⟨j, hj⟩ := List.mem_iff_getElem?.mp hq
        obtain ⟨y1, y2, y3, y4, -⟩ := q5 j q hj
        have := rw_fl_len hq
        rw [q4, List.length_append] at hC
        exact ⟨y2, by rw [← y1]; exact (l_rng _).2, y4, by rw [← y3]; exact (l_rng _).2, by omega⟩
      have e := rw_fl_u Q P _ _ (by omega) hQok p3 (by rw [← q4, p2])
      subst e
      obtain ⟨s1, f, code, s2, s3, s4⟩ := c_pf16 (E := E) (fb := fb) hx2 hx3 hx4 (by rw [q3, q0]) (by omega) q5 g 0 0 (by first | decide | (simp; done) | (simp [ms_0]; done)) (by omega) p4 h
      refine ⟨s1, f, code, s2, s3, ?_⟩
      rcases s4 with s4 | ⟨q, s4, s5⟩
      · rw [s4]; simp
      · rw [s5]; exact (hQok q s4).2.2.2.2
theorem c_clear9 (t1 : tx FR 91 92 93) (h : RX8_clear 91 n sl SH FI FL FR u st) : ∃ F2 L2, st = (n, sl, SH, F2, L2, FR) ∧ (∀ c, c ≠ 91 → c ≠ 93 → F2 c = FI c ∧ L2 c = FL c) ∧ (F2 91 1).toInt = 0 ∧ cq F2 L2 FR SH 93 (ms_0, 0, 0) := by
  obtain ⟨v2, n2, sl2, SH2, FI2, FL2, FR2, ho, c4, e4, v4, n4, sl4, SH4, FI4, FL4, FR4, hb, -, es⟩ := h
  obtain ⟨c1, e1, -, e2, e3⟩ := ho
  rw [t1.1] at e1
  cases e1
  cases e3
  rw [t1.2 0 (by first | decide | (simp; done) | (simp [ms_0]; done))] at e2
  rw [e2] at e4
  cases e4
  obtain ⟨-, e5⟩ := hb
  cases e5
  refine ⟨_, _, es, fun c c1 c2 => ⟨by rw [h_up_nc c2, h_up_nc c2, h_up_nc c2, h_up_nc c1, h_up_nc c1], h_up_nc c2⟩, ?_, ⟨⟨?_, ?_, Or.inl ⟨rfl, rfl⟩, fun e => absurd (show (0 : Int) = 4 from e) (by first | decide | (simp; done) | (simp [ms_0]; done))⟩, ?_, ?_, by show (0 : Int) ≤ 0; (first | decide | (simp; done) | (simp [ms_0]; done)), by show (0 : Int) ≤ 4096; (first | decide | (simp; done) | (simp [ms_0]; done)), by show (0 : Int) ≤ 0; (first | decide | (simp; done) | (simp [ms_0]; done)), by show (0 : Int) ≤ 4096; (first | decide | (simp; done) | (simp [ms_0]; done))⟩⟩
  · rw [h_up_nc (by first | decide | (simp; done) | (simp [ms_0]; done)), h_up_nc (by first | decide | (simp; done) | (simp [ms_0]; done)), h_up_nc (by first | decide | (simp; done) | (simp [ms_0]; done)), h_up_ne (by first | decide | (simp; done) | (simp [ms_0]; done)), h_up_eq]; (first | decide | (simp; done) | (simp [ms_0]; done))
  · rw [h_up_ne (by first | decide | (simp; done) | (simp [ms_0]; done)), h_up_ne (by first | decide | (simp; done) | (simp [ms_0]; done)), h_up_eq]
    show ((0 : Int32)).toInt = 0
    decide
  · rw [h_up_eq]; rfl
  · rw [h_up_ne (by first | decide | (simp; done) | (simp [ms_0]; done)), h_up_eq]
    show ((0 : Int32)).toInt = 0
    decide
  · rw [h_up_eq]
    show ((0 : Int32)).toInt = 0
    decide
theorem c_say {x m : Nat} {pc : Int64} {C : List Int} {r : Int ⊕ ms_Q} (hS : h_S n SH) (hf : x_fb E fb) (hv : v_ms FI FL FR SH x m C) (hr : mvar E fb pc m C r) (hC : C.length ≤ 60000) (hE : cE FI FL FR SH E) (ht : th FR ∧ thI FR) (t1 : tx FR 91 92 93) (h : RX2_say (some x) pc n sl SH FI FL FR v st) : sa_c n sl SH FI FL FR v st r := by
  obtain ⟨v1, n1, sl1, SH1, FI1, FL1, FR1, hc, v2, n2, sl2, SH2, FI2, FL2, FR2, hp, g, h⟩ := h
  obtain ⟨F3, L3, e3, c3, c4, c5⟩ := c_clear9 t1 hc
  cases e3
  have fr : ∀ c, c ≠ 90 → c ≠ 91 → c ≠ 93 → FI1 c = FI c ∧ FL1 c = FL c := fun c d1 d2 d3 => ⟨by rw [(c3 c d2 d3).1, h_up_nc d1], (c3 c d2 d3).2⟩
  have k1 : vz FI FL FR FI1 FL1 FR := ⟨fun c hc => ⟨(fr c (by omega) (by omega) (by omega)).1, (fr c (by omega) (by omega) (by omega)).2, rfl⟩, ht.1, ht.2, t1⟩
  have hv1 : v_ms FI1 FL1 FR SH x m C := by
    have dy := vz_dyn k1
    obtain ⟨h176, hx2, hx3, hx4, hv⟩ := hv
    refine ⟨h176, hx2, hx3, hx4, ?_⟩
    rw [(dy x h176).1, (dy (x + 1) (by omega)).2.1, (dy (x + 2) (by omega)).2.1]
    rcases hv with ⟨m0, f0, a, f, ha, hw⟩ | ⟨Q, q0, q1, q2, q3, q4, q5⟩
    · exact Or.inl ⟨m0, f0, a, f, ha, w_ls_ag dy f _ _ hw⟩
    · refine Or.inr ⟨Q, q0, q1, q2, q3, q4, fun j q hq => ?_⟩
      obtain ⟨y1, y2, y3, y4, a, f, y5, y6⟩ := q5 j q hq
      exact ⟨y1, y2, y3, y4, a, f, y5, w_ls_ag dy f _ _ y6⟩
  obtain ⟨e4, f, code, w1, w2, w3⟩ := c_placeFor hv1 hr hC hp
  cases e4
  refine sa_up k1 (c_say_l hS hf w1 w2 w3 (cE_vz hE k1) ht t1 ?_ c4 c5 h)
  rw [(c3 90 (by first | decide | (simp; done) | (simp [ms_0]; done)) (by first | decide | (simp; done) | (simp [ms_0]; done))).1, h_up_eq]
  decide
/-- what means leaves alone in the class -/
theorem kc_vz (h : vz FI FL FR F2 L2 R2) : kc FI FL FR F2 L2 R2 := fun c hc => h.1 c (by omega)
theorem c_isVar {a1 v0 : Int32} {i N vc : Nat} {s0 : hS} (hi : a1.toInt = i) (h12 : (FI 0 12).toInt = N) (hiN : i < N) (h11 : FR 0 11 = some vc) (hvz : N ≤ (SH vc).2) (hvz2 : (SH vc).2 ≤ 100000) (h : RX11_isVariable a1 n sl SH FI FL FR v0 s0) : s0 = (n, sl, SH, FI, FL, FR) ∧ ¬ v0.toInt = 0 := by
  have h := P_n h (by omega)
  have h := P_p h (by omega)
  obtain ⟨c3, e3, h⟩ := h
  rw [h11] at e3
  cases e3
  have h := P_p h (by rw [i_lit (by omega)]; omega)
  exact ⟨h.2, by rw [h.1]; (first | decide | (simp; done) | (simp [ms_0]; done))⟩
/-- the class's means -/
theorem c_means {a1 : Int32} {pc : Int64} {i vc x m N : Nat} {C : List Int} {r : Int ⊕ ms_Q} {Q0 : ms_Q} (hS : h_S n SH) (hf : x_fb E fb) (hi : a1.toInt = i) (h12 : (FI 0 12).toInt = N) (hiN : i < N) (h11 : FR 0 11 = some vc) (hvz : N ≤ (SH vc).2) (hvz2 : (SH vc).2 ≤ 100000) (hx : FR vc i = some x) (hv : v_ms FI FL FR SH x m C) (hr : mvar E fb pc m C r) (hC : C.length ≤ 60000) (hE : cE FI FL FR SH E) (ht : th FR ∧ thI FR) (t1 : tx FR 91 92 93) (t0 : tx FR 1 2 3) (hQ : crx FI FL FR SH 1 3 Q0) (h : RX11_means a1 pc n sl SH FI FL FR v st) : ∃ F2 L2 R2, st = (n, sl, SH, F2, L2, R2) ∧ kc FI FL FR F2 L2 R2 ∧ cz F2 L2 R2 SH Q0 v r := by
  obtain ⟨v0, n0, sl0, SH0, FI0, FL0, FR0, hiv, h⟩ := h
  have hiv2 : (n0, sl0, SH0, FI0, FL0, FR0) = (n, sl, SH, FI, FL, FR) ∧ ¬ v0.toInt = 0 := c_isVar hi h12 hiN h11 hvz hvz2 hiv
  obtain ⟨e0, hne⟩ := hiv2
  cases e0
  have h := P_n h hne
  obtain ⟨c3, e3, -, v3, n3, sl3, SH3, FI3, FL3, FR3, hs, h⟩ := h
  rw [h11] at e3
  cases e3
  rw [show a1.toInt.toNat = i by omega, hx] at hs
  obtain ⟨F4, L4, R4, e4, k4, r4⟩ := c_say hS hf hv hr hC hE ht t1 hs
  cases e4
  have t04 : tx FR3 1 2 3 := by
    unfold tx
    rw [(k4.1 1 (by omega)).2.2, (k4.1 2 (by omega)).2.2]
    exact t0
  rcases h with ⟨h0, h⟩ | ⟨h0, h⟩
  · obtain ⟨v5, n5, sl5, SH5, FI5, FL5, FR5, htk, v6, n6, sl6, SH6, FI6, FL6, FR6, htl, e1, e2⟩ := h
    match r, r4 with
    | .inl e, r4 => exact absurd (r4.1.symm.trans h0) r4.2
    | .inr Q, r4 =>
      obtain ⟨F7, L7, R7, e7, k7, q7⟩ := c_rt hS (by first | decide | (simp; done) | (simp [ms_0]; done)) t04 k4.2.2.2 r4.2 htk
      cases e7
      obtain ⟨F8, e8, k8⟩ := c_tell htl
      cases e8
      exact ⟨_, _, _, e2, kc_tr (kc_vz k4) (kc_tr (kc_k1 k7) (kc_21 k8)), by rw [e1]; exact r4.1, crx_21 q7 k8⟩
  · obtain ⟨v6, n6, sl6, SH6, FI6, FL6, FR6, htl, e1, e2⟩ := h
    match r, r4 with
    | .inr Q, r4 => exact absurd r4.1 h0
    | .inl e, r4 =>
      obtain ⟨F8, e8, k8⟩ := c_tell htl
      cases e8
      have hQ4 : crx FI3 FL3 FR3 SH 1 3 Q0 := crx_fr hQ (fun r hr => (k4.1 r (by have := rg_t (SH := SH) r hr; omega)).1) (k4.1 1 (by omega)).1 (fun i hi => k4.1 (3 + i) (by omega))
      exact ⟨_, _, _, e2, kc_tr (kc_vz k4) (kc_21 k8), by rw [e1]; exact r4.1, r4.2, crx_21 hQ4 k8⟩
end CMN
