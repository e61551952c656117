section
/-! THE CLASS'S means. -/
section CMN
variable {n sl : Nat} {SH : Nat → Nat × Nat} {FI F2 : Nat → Nat → Int32} {FL L2 : Nat → Nat → Int64} {FR R2 : Nat → Nat → Option Nat} {st : hS} {E : ms_E} {fb : xX} {u : Unit} {v : Int32}
/-- a variable's tree: its cell, its rows, its bytes -/
def v_ms (F : Nat → Nat → Int32) (L : Nat → Nat → Int64) (R : Nat → Nat → Option Nat) (SH : Nat → Nat × Nat) (x m : Nat) (C : List Int) : Prop := 176 ≤ x ∧ R x 2 = some (x + 1) ∧ R x 3 = some (x + 2) ∧ R x 4 = some (x + 3) ∧ ((m = 0 ∧ (F x 5).toInt = 0 ∧ ∃ a f, R (x + 3) 0 = some a ∧ w_ls F L R SH f (some a) C) ∨ (∃ Q : List r_Q, m = Q.length ∧ 1 ≤ m ∧ m ≤ 8 ∧ (F x 5).toInt = (m : Int) ∧ C = rw_fl Q ++ (lc_by 0 8 ++ lc_by 0 8) ∧ ∀ j q, Q[j]? = some q → (L (x + 1) j).toInt = q.1 ∧ 0 ≤ q.1 ∧ (L (x + 2) j).toInt = q.2.1 ∧ 0 ≤ q.2.1 ∧ ∃ a f, R (x + 3) j = some a ∧ w_ls F L R SH f (some a) q.2.2))
theorem ms_lt_c {a b : Int64} : (fX11_isBelow a b SH FI FL FR).toInt = 0 ↔ ms_lt a b = false := by
  unfold fX11_isBelow ms_lt
  by_cases h : (a + (-9223372036854775808 : Int64)).toInt < (b + (-9223372036854775808 : Int64)).toInt
  · rw [if_pos h, decide_eq_true h]
    exact ⟨fun e => absurd e (by first | decide | (simp; done) | (simp [ms_0]; done)), fun e => by cases e⟩
  · rw [if_neg h, decide_eq_false h]
    exact ⟨fun _ => rfl, fun _ => by first | decide | (simp; done) | (simp [ms_0]; done)⟩
theorem mrws_drop {pc : Int64} {r : Int ⊕ ms_Q} {Q : List r_Q} {j : Nat} {q : r_Q} (hq : Q[j]? = some q) (h : mrws E fb pc (Q.drop j) r) : (mrow pc q = true ∧ mloc E fb q.2.2 r) ∨ (¬ mrow pc q = true ∧ mrws E fb pc (Q.drop (j + 1)) r) := by
  obtain ⟨hl, e⟩ := List.getElem?_eq_some_iff.mp hq
  rw [List.drop_eq_getElem_cons hl, e] at h
  exact h
/-- which row holds -/
theorem c_pf16 {x : Nat} {pc : Int64} {Q : List r_Q} {r : Int ⊕ ms_Q} {w : Option Nat} (hx2 : FR x 2 = some (x + 1)) (hx3 : FR x 3 = some (x + 2)) (hx4 : FR x 4 = some (x + 3)) (h5 : (FI x 5).toInt = (Q.length : Int)) (h8 : Q.length ≤ 8) (hQ : ∀ j q, Q[j]? = some q → (FL (x + 1) j).toInt = q.1 ∧ 0 ≤ q.1 ∧ (FL (x + 2) j).toInt = q.2.1 ∧ 0 ≤ q.2.1 ∧ ∃ a f, FR (x + 3) j = some a ∧ w_ls FI FL FR SH f (some a) q.2.2) : ∀ (g j : Nat) (l3 : Int32), l3.toInt = j → j ≤ Q.length → mrws E fb pc (Q.drop j) r → GX2_placeFor_16 (some x) pc g l3 n sl SH FI FL FR w st → st = (n, sl, SH, FI, FL, FR) ∧ ∃ f code, w_ls FI FL FR SH f w code ∧ mloc E fb code r ∧ (code = [] ∨ ∃ q, q ∈ Q ∧ code = q.2.2) := by
  intro g
  induction g with
  | zero => intro j l3 _ _ _ h; exact h.elim
  | succ g ih =>
    intro j l3 hj hjl hr h
    have none_r : ∀ {w0 : Option Nat}, Q.length ≤ j → w = none → st = (n, sl, SH, FI, FL, FR) → st = (n, sl, SH, FI, FL, FR) ∧ ∃ f code, w_ls FI FL FR SH f w code ∧ mloc E fb code r ∧ (code = [] ∨ ∃ q, q ∈ Q ∧ code = q.2.2) := by
      intro w0 hle ew es
      rw [List.drop_eq_nil_of_le hle] at hr
      have hr : r = .inr (false, [(ms_0, 0, 0)]) := hr
      subst ew
      exact ⟨es, 1, [], rfl, Or.inl ⟨0, .inr ms_0, Or.inr (Or.inr (Or.inr (Or.inr ⟨rfl, rfl, rfl⟩))), hr⟩, Or.inl rfl⟩
    obtain ⟨c1, e1, h⟩ := h
    cases e1
    rw [hj, h5] at h
    rcases h with ⟨b1, h⟩ | ⟨b1, ew, es⟩
    · have h := P_p h (by rw [show ((8 : Int32)).toInt = 8 by first | decide | (simp; done) | (simp [ms_0]; done)]; omega)
      obtain ⟨q, hq⟩ := lx_i (L := Q) (i := j) (by omega)
      obtain ⟨q1, q2, q3, q4, a, f, q5, q6⟩ := hQ j q hq
      have hr2 := mrws_drop hq hr
      have e1 : Int64.ofInt q.1 = FL (x + 1) j := by rw [← q1, l_oi]
      have e2 : Int64.ofInt q.2.1 = FL (x + 2) j := by rw [← q3, l_oi]
      have em : mrow pc q = (!(ms_lt pc (FL (x + 1) j)) && ms_lt pc (FL (x + 2) j)) := by
        unfold mrow
        rw [e1, e2]
      have nj : (l3 + (1 : Int32)).toInt = ((j + 1 : Nat) : Int) := by
        rw [i_add hj (by first | decide | (simp; done) | (simp [ms_0]; done) : ((1 : Int32)).toInt = 1) (by omega) (by omega)]
        omega
      have no : ¬ mrow pc q = true → GX2_placeFor_16 (some x) pc g (l3 + (1 : Int32)) n sl SH FI FL FR w st → st = (n, sl, SH, FI, FL, FR) ∧ ∃ f code, w_ls FI FL FR SH f w code ∧ mloc E fb code r ∧ (code = [] ∨ ∃ q, q ∈ Q ∧ code = q.2.2) := by
        intro hn h
        exact ih (j + 1) _ nj (by omega) (hr2.elim (fun e => absurd e.1 hn) (fun e => e.2)) h
      obtain ⟨c4, e4, c5, e5, -, h⟩ := h
      cases e4
      rw [hx2] at e5
      cases e5
      (try rw [show ((j : Int)).toNat = j by omega] at h)
      rcases h with ⟨d1, h⟩ | ⟨d1, h⟩
      · rw [ms_lt_c] at d1
        obtain ⟨c8, e8, c9, e9, -, h⟩ := h
        cases e8
        rw [hx3] at e9
        cases e9
        (try rw [show ((j : Int)).toNat = j by omega] at h)
        rcases h with ⟨d2, h⟩ | ⟨d2, h⟩
        · rw [ms_lt_c] at d2
          exact no (by rw [em, d1, d2]; (first | decide | (simp; done) | (simp [ms_0]; done))) h
        · have d2 : ms_lt pc (FL (x + 2) j) = true := by
            cases e : ms_lt pc (FL (x + 2) j) with
            | true => rfl
            | false => exact absurd (ms_lt_c.mpr e) d2
          have hy : mrow pc q = true := by rw [em, d1, d2]; (first | decide | (simp; done) | (simp [ms_0]; done))
          have hr2 := hr2.elim (fun e => e.2) (fun e => absurd hy e.1)
          obtain ⟨c12, e12, c13, e13, -, ew, es⟩ := h
          cases e12
          rw [hx4] at e13
          cases e13
          (try rw [show ((j : Int)).toNat = j by omega] at ew)
          rw [q5] at ew
          subst ew
          exact ⟨es, f, q.2.2, q6, hr2, Or.inr ⟨q, List.mem_of_getElem? hq, rfl⟩⟩
      · have d1 : ms_lt pc (FL (x + 1) j) = true := by
          cases e : ms_lt pc (FL (x + 1) j) with
          | true => rfl
          | false => exact absurd (ms_lt_c.mpr e) d1
        exact no (by rw [em, d1]; simp) h
    · exact none_r (w0 := none) (by omega) ew es
theorem rw_fl_len {Q : List r_Q} {q : r_Q} : q ∈ Q → q.2.2.length ≤ (rw_fl Q).length := by
  induction Q with
  | nil => intro h; simp at h
  | cons p P ih =>
    intro h
    rw [rw_fl_c]
    simp only [List.length_append]
    rcases List.mem_cons.mp h with h | h
    · rw [h]; omega
    · have := ih h
      omega
theorem c_placeFor {x m : Nat} {pc : Int64} {C : List Int} {r : Int ⊕ ms_Q} {w : Option Nat} (hv : v_ms FI FL FR SH x m C) (hr : mvar E fb pc m C r) (hC : C.length ≤ 60000) (h : RX2_placeFor (some x) pc n sl SH FI FL FR w st) : st = (n, sl, SH, FI, FL, FR) ∧ ∃ f code, w_ls FI FL FR SH f w code ∧ mloc E fb code r ∧ code.length ≤ 60000 := by
  obtain ⟨h176, hx2, hx3, hx4, hv⟩ := hv
  obtain ⟨c1, e1, h⟩ := h
  cases e1
  rcases hv with ⟨m0, f0, a, f, ha, hw⟩ | ⟨Q, q0, q1, q2, q3, q4, q5⟩
  · obtain ⟨c3, e3, c4, e4, -, ew, es⟩ := P_p h f0
    cases e3
    rw [hx4] at e4
    cases e4
    rw [ha] at ew
    subst ew
    rcases hr with ⟨-, hr⟩ | ⟨P, p0, p1, -⟩
    · exact ⟨es, f, C, hw, hr, hC⟩
    · exfalso; omega
  · obtain ⟨g, h⟩ := P_n h (by rw [q3]; omega)
    rcases hr with ⟨p0, -⟩ | ⟨P, p0, p1, p2, p3, p4⟩
    · exfalso; omega
    · have hQok : ∀ q, q ∈ Q → 0 ≤ q.1 ∧ q.1 ≤ 9223372036854775807 ∧ 0 ≤ q.2.1 ∧ q.2.1 ≤ 9223372036854775807 ∧ q.2.2.length ≤ 60000 := by
        intro q hq
        obtain ⟨j, hj⟩ := List.mem_iff_getElem?.mp hq
        obtain ⟨y1, y2, y3, y4, -⟩ := q5 j q hj
        have := rw_fl_len hq
        rw [q4, List.length_append] at hC
        exact ⟨y2, by rw [← y1]; exact (l_rng _).2, y4, by rw [← y3]; exact (l_rng _).2, by omega⟩
      have e := rw_fl_u Q P _ _ (by omega) hQok p3 (by rw [← q4, p2])
      subst e
      obtain ⟨s1, f, code, s2, s3, s4⟩ := c_pf16 (E := E) (fb := fb) hx2 hx3 hx4 (by rw [q3, q0]) (by omega) q5 g 0 0 (by first | decide | (simp; done) | (simp [ms_0]; done)) (by omega) p4 h
      refine ⟨s1, f, code, s2, s3, ?_⟩
      rcases s4 with s4 | ⟨q, s4, s5⟩
      · rw [s4]; simp
      · rw [s5]; exact (hQok q s4).2.2.2.2
theorem c_clear9 (t1 : tx FR 91 92 93) (h : RX8_clear 91 n sl SH FI FL FR u st) : ∃ F2 L2, st = (n, sl, SH, F2, L2, FR) ∧ (∀ c, c ≠ 91 → c ≠ 93 → F2 c = FI c ∧ L2 c = FL c) ∧ (F2 91 1).toInt = 0 ∧ cq F2 L2 FR SH 93 (ms_0, 0, 0) := by
  obtain ⟨v2, n2, sl2, SH2, FI2, FL2, FR2, ho, c4, e4, v4, n4, sl4, SH4, FI4, FL4, FR4, hb, -, es⟩ := h
  obtain ⟨c1, e1, -, e2, e3⟩ := ho
  rw [t1.1] at e1
  cases e1
  cases e3
  rw [t1.2 0 (by first | decide | (simp; done) | (simp [ms_0]; done))] at e2
  rw [e2] at e4
  cases e4
  obtain ⟨-, e5⟩ := hb
  cases e5
  refine ⟨_, _, es, fun c c1 c2 => ⟨by rw [h_up_nc c2, h_up_nc c2, h_up_nc c2, h_up_nc c1, h_up_nc c1], h_up_nc c2⟩, ?_, ⟨⟨?_, ?_, Or.inl ⟨rfl, rfl⟩, fun e => absurd (show (0 : Int) = 4 from e) (by first | decide | (simp; done) | (simp [ms_0]; done))⟩, ?_, ?_, by show (0 : Int) ≤ 0; (first | decide | (simp; done) | (simp [ms_0]; done)), by show (0 : Int) ≤ 4096; (first | decide | (simp; done) | (simp [ms_0]; done)), by show (0 : Int) ≤ 0; (first | decide | (simp; done) | (simp [ms_0]; done)), by show (0 : Int) ≤ 4096; (first | decide | (simp; done) | (simp [ms_0]; done))⟩⟩
  · rw [h_up_nc (by first | decide | (simp; done) | (simp [ms_0]; done)), h_up_nc (by first | decide | (simp; done) | (simp [ms_0]; done)), h_up_nc (by first | decide | (simp; done) | (simp [ms_0]; done)), h_up_ne (by first | decide | (simp; done) | (simp [ms_0]; done)), h_up_eq]; (first | decide | (simp; done) | (simp [ms_0]; done))
  · rw [h_up_ne (by first | decide | (simp; done) | (simp [ms_0]; done)), h_up_ne (by first | decide | (simp; done) | (simp [ms_0]; done)), h_up_eq]
    show ((0 : Int32)).toInt = 0
    decide
  · rw [h_up_eq]; rfl
  · rw [h_up_ne (by first | decide | (simp; done) | (simp [ms_0]; done)), h_up_eq]
    show ((0 : Int32)).toInt = 0
    decide
  · rw [h_up_eq]
    show ((0 : Int32)).toInt = 0
    decide
theorem c_say {x m : Nat} {pc : Int64} {C : List Int} {r : Int ⊕ ms_Q} (hS : h_S n SH) (hf : x_fb E fb) (hv : v_ms FI FL FR SH x m C) (hr : mvar E fb pc m C r) (hC : C.length ≤ 60000) (hE : cE FI FL FR SH E) (ht : th FR ∧ thI FR) (t1 : tx FR 91 92 93) (h : RX2_say (some x) pc n sl SH FI FL FR v st) : sa_c n sl SH FI FL FR v st r := by
  obtain ⟨v1, n1, sl1, SH1, FI1, FL1, FR1, hc, v2, n2, sl2, SH2, FI2, FL2, FR2, hp, g, h⟩ := h
  obtain ⟨F3, L3, e3, c3, c4, c5⟩ := c_clear9 t1 hc
  cases e3
  have fr : ∀ c, c ≠ 90 → c ≠ 91 → c ≠ 93 → FI1 c = FI c ∧ FL1 c = FL c := fun c d1 d2 d3 => ⟨by rw [(c3 c d2 d3).1, h_up_nc d1], (c3 c d2 d3).2⟩
  have k1 : vz FI FL FR FI1 FL1 FR := ⟨fun c hc => ⟨(fr c (by omega) (by omega) (by omega)).1, (fr c (by omega) (by omega) (by omega)).2, rfl⟩, ht.1, ht.2, t1⟩
  have hv1 : v_ms FI1 FL1 FR SH x m C := by
    have dy := vz_dyn k1
    obtain ⟨h176, hx2, hx3, hx4, hv⟩ := hv
    refine ⟨h176, hx2, hx3, hx4, ?_⟩
    rw [(dy x h176).1, (dy (x + 1) (by omega)).2.1, (dy (x + 2) (by omega)).2.1]
    rcases hv with ⟨m0, f0, a, f, ha, hw⟩ | ⟨Q, q0, q1, q2, q3, q4, q5⟩
    · exact Or.inl ⟨m0, f0, a, f, ha, w_ls_ag dy f _ _ hw⟩
    · refine Or.inr ⟨Q, q0, q1, q2, q3, q4, fun j q hq => ?_⟩
      obtain ⟨y1, y2, y3, y4, a, f, y5, y6⟩ := q5 j q hq
      exact ⟨y1, y2, y3, y4, a, f, y5, w_ls_ag dy f _ _ y6⟩
  obtain ⟨e4, f, code, w1, w2, w3⟩ := c_placeFor hv1 hr hC hp
  cases e4
  refine sa_up k1 (c_say_l hS hf w1 w2 w3 (cE_vz hE k1) ht t1 ?_ c4 c5 h)
  rw [(c3 90 (by first | decide | (simp; done) | (simp [ms_0]; done)) (by first | decide | (simp; done) | (simp [ms_0]; done))).1, h_up_eq]
  decide
/-- what means leaves alone in the class -/
theorem kc_vz (h : vz FI FL FR F2 L2 R2) : kc FI FL FR F2 L2 R2 := fun c hc => h.1 c (by omega)
theorem c_isVar {a1 v0 : Int32} {i N vc : Nat} {s0 : hS} (hi : a1.toInt = i) (h12 : (FI 0 12).toInt = N) (hiN : i < N) (h11 : FR 0 11 = some vc) (hvz : N ≤ (SH vc).2) (hvz2 : (SH vc).2 ≤ 100000) (h : RX11_isVariable a1 n sl SH FI FL FR v0 s0) : s0 = (n, sl, SH, FI, FL, FR) ∧ ¬ v0.toInt = 0 := by
  have h := P_n h (by omega)
  have h := P_p h (by omega)
  obtain ⟨c3, e3, h⟩ := h
  rw [h11] at e3
  cases e3
  have h := P_p h (by rw [i_lit (by omega)]; omega)
  exact ⟨h.2, by rw [h.1]; (first | decide | (simp; done) | (simp [ms_0]; done))⟩
/-- the class's means -/
theorem c_means {a1 : Int32} {pc : Int64} {i vc x m N : Nat} {C : List Int} {r : Int ⊕ ms_Q} {Q0 : ms_Q} (hS : h_S n SH) (hf : x_fb E fb) (hi : a1.toInt = i) (h12 : (FI 0 12).toInt = N) (hiN : i < N) (h11 : FR 0 11 = some vc) (hvz : N ≤ (SH vc).2) (hvz2 : (SH vc).2 ≤ 100000) (hx : FR vc i = some x) (hv : v_ms FI FL FR SH x m C) (hr : mvar E fb pc m C r) (hC : C.length ≤ 60000) (hE : cE FI FL FR SH E) (ht : th FR ∧ thI FR) (t1 : tx FR 91 92 93) (t0 : tx FR 1 2 3) (hQ : crx FI FL FR SH 1 3 Q0) (h : RX11_means a1 pc n sl SH FI FL FR v st) : ∃ F2 L2 R2, st = (n, sl, SH, F2, L2, R2) ∧ kc FI FL FR F2 L2 R2 ∧ cz F2 L2 R2 SH Q0 v r := by
  obtain ⟨v0, n0, sl0, SH0, FI0, FL0, FR0, hiv, h⟩ := h
  have hiv2 : (n0, sl0, SH0, FI0, FL0, FR0) = (n, sl, SH, FI, FL, FR) ∧ ¬ v0.toInt = 0 := c_isVar hi h12 hiN h11 hvz hvz2 hiv
  obtain ⟨e0, hne⟩ := hiv2
  cases e0
  have h := P_n h hne
  obtain ⟨c3, e3, -, v3, n3, sl3, SH3, FI3, FL3, FR3, hs, h⟩ := h
  rw [h11] at e3
  cases e3
  rw [show a1.toInt.toNat = i by omega, hx] at hs
  obtain ⟨F4, L4, R4, e4, k4, r4⟩ := c_say hS hf hv hr hC hE ht t1 hs
  cases e4
  have t04 : tx FR3 1 2 3 := by
    unfold tx
    rw [(k4.1 1 (by omega)).2.2, (k4.1 2 (by omega)).2.2]
    exact t0
  rcases h with ⟨h0, h⟩ | ⟨h0, h⟩
  · obtain ⟨v5, n5, sl5, SH5, FI5, FL5, FR5, htk, v6, n6, sl6, SH6, FI6, FL6, FR6, htl, e1, e2⟩ := h
    match r, r4 with
    | .inl e, r4 => exact absurd (r4.1.symm.trans h0) r4.2
    | .inr Q, r4 =>
      obtain ⟨F7, L7, R7, e7, k7, q7⟩ := c_rt hS (by first | decide | (simp; done) | (simp [ms_0]; done)) t04 k4.2.2.2 r4.2 htk
      cases e7
      obtain ⟨F8, e8, k8⟩ := c_tell htl
      cases e8
      exact ⟨_, _, _, e2, kc_tr (kc_vz k4) (kc_tr (kc_k1 k7) (kc_21 k8)), by rw [e1]; exact r4.1, crx_21 q7 k8⟩
  · obtain ⟨v6, n6, sl6, SH6, FI6, FL6, FR6, htl, e1, e2⟩ := h
    match r, r4 with
    | .inr Q, r4 => exact absurd r4.1 h0
    | .inl e, r4 =>
      obtain ⟨F8, e8, k8⟩ := c_tell htl
      cases e8
      have hQ4 : crx FI3 FL3 FR3 SH 1 3 Q0 := crx_fr hQ (fun r hr => (k4.1 r (by have := rg_t (SH := SH) r hr; omega)).1) (k4.1 1 (by omega)).1 (fun i hi => k4.1 (3 + i) (by omega))
      exact ⟨_, _, _, e2, kc_tr (kc_vz k4) (kc_21 k8), by rw [e1]; exact r4.1, r4.2, crx_21 hQ4 k8⟩
end CMN
end
section
/-! BITS of parts; FETCH and STORE as functions. -/
def bt8 (x : Int32) (k : Nat) : Int32 := (x >>> Int32.ofNat k) &&& (1 : Int32)
def bt64 (x : Int64) (k : Nat) : Int32 := ((x >>> Int64.ofNat k) &&& (1 : Int64)).toInt32
/-- bit i of a thing, if it is somewhere -/
def ms_bq (E : ms_E) (H : ms_H) (i : Nat) : Option Int32 :=
  if H.1 = 1 then (if (H.2.1 + Int64.ofNat (i / 8)).toInt < 0 ∨ 4095 < (H.2.1 + Int64.ofNat (i / 8)).toInt then none else some (bt8 (ms_mm E (H.2.1 + Int64.ofNat (i / 8)).toInt.toNat) (i % 8)))
  else if H.1 = 2 then (if 63 < i then none else some (bt64 (ms_rg E H.2.1.toInt.toNat) i))
  else if H.1 = 3 then (if 63 < i then none else some (bt64 H.2.1 i))
  else if H.1 = 4 then (match H.2.2[i / 8]? with
    | none => none
    | some b => some (bt8 b (i % 8)))
  else none
/-- bits in their order: which part, which bit of it -/
def pl_1 (p : ms_P) : Nat → Nat → List (ms_P × Nat)
  | 0, _ => []
  | m + 1, i => (p, i) :: pl_1 p m (i + 1)
def pl_f (B : ms_P → Nat) : List ms_P → List (ms_P × Nat)
  | [] => []
  | p :: r => pl_1 p (B p) 0 ++ pl_f B r
def pl_B (pc : Bool) (n : Nat) (p : ms_P) : Nat := if pc = true then p.2.1.toNat else n
def pl_Q (n : Nat) (Q : ms_Q) : List (ms_P × Nat) := pl_f (pl_B Q.1 n) Q.2.reverse
def fe_st (E : ms_E) (k : Nat) (x : ms_P × Nat) (s : (Nat → Int32) × Nat) : (Nat → Int32) × Nat := match ms_bq E x.1.1 (x.1.2.2.toNat + x.2) with
  | none => s
  | some b => (va_up s.1 (k / 8) (s.1 (k / 8) ||| (b <<< Int32.ofNat (k % 8))), s.2 + 1)
def fe (E : ms_E) (n : Nat) : List (ms_P × Nat) → Nat → (Nat → Int32) × Nat → (Nat → Int32) × Nat
  | [], _, s => s
  | x :: r, k, s => if k < n then fe E n r (k + 1) (fe_st E k x s) else s
theorem fe_n {E : ms_E} {n k : Nat} {s : (Nat → Int32) × Nat} (h : n ≤ k) : ∀ L : List (ms_P × Nat), fe E n L k s = s
  | [] => rfl
  | x :: r => by rw [fe, if_neg (by omega)]
/-- a byte and a number with one bit changed -/
def sb8 (x : Int32) (k : Nat) (b : Int32) : Int32 := (x &&& (((1 : Int32) <<< Int32.ofNat k) ^^^ (-1 : Int32))) ||| (b <<< Int32.ofNat k)
def sb64 (x : Int64) (k : Nat) (b : Int32) : Int64 := (x &&& (((1 : Int64) <<< Int64.ofNat k) ^^^ (-1 : Int64))) ||| (b.toInt64 <<< Int64.ofNat k)
def ms_um (E : ms_E) (a : Nat) (x : Int32) : ms_E := (E.1, va_up E.2.1 a x, E.2.2)
def ms_ur (E : ms_E) (r : Nat) (x : Int64) : ms_E := (va_up E.1 r x, E.2)
/-- a bit is stored, if it can be -/
def so_1 (E : ms_E) (H : ms_H) (i : Nat) (b : Int32) : Option ms_E :=
  if H.1 = 1 then (if (H.2.1 + Int64.ofNat (i / 8)).toInt < 0 ∨ 4095 < (H.2.1 + Int64.ofNat (i / 8)).toInt then none else some (ms_um E (H.2.1 + Int64.ofNat (i / 8)).toInt.toNat (sb8 (ms_mm E (H.2.1 + Int64.ofNat (i / 8)).toInt.toNat) (i % 8) b)))
  else if H.1 = 2 then (if 63 < i then none else some (ms_ur E H.2.1.toInt.toNat (sb64 (ms_rg E H.2.1.toInt.toNat) i b)))
  else none
def so_st (tp : Nat → Int32) (k : Nat) (x : ms_P × Nat) (s : ms_E × Nat) : ms_E × Nat := match so_1 s.1 x.1.1 (x.1.2.2.toNat + x.2) (bt8 (tp (k / 8)) (k % 8)) with
  | none => s
  | some E2 => (E2, s.2 + 1)
def so (tp : Nat → Int32) (n : Nat) : List (ms_P × Nat) → Nat → ms_E × Nat → ms_E × Nat
  | [], _, s => s
  | x :: r, k, s => if k < n then so tp n r (k + 1) (so_st tp k x s) else s
theorem so_n {tp : Nat → Int32} {n k : Nat} {s : ms_E × Nat} (h : n ≤ k) : ∀ L : List (ms_P × Nat), so tp n L k s = s
  | [] => rfl
  | x :: r => by rw [so, if_neg (by omega)]
/-! the shifts -/
theorem sh_7 : ∀ k : Nat, k < 8 → (Int32.ofNat k &&& (31 : Int32)) = Int32.ofNat k := by first | decide | (simp; done) | (simp [ms_0]; done)
theorem sh_63 : ∀ k : Nat, k < 64 → (Int64.ofNat k &&& (63 : Int64)) = Int64.ofNat k := by first | decide | (simp; done) | (simp [ms_0]; done)
theorem bt8_u {x : Int32} {k : Nat} (h0 : 0 ≤ x.toInt) (h1 : x.toInt ≤ 255) (hk : k < 8) : ((x.toUInt32 >>> ((Int32.ofNat k).toUInt32 &&& Int32.toUInt32 31)).toInt32) &&& (1 : Int32) = bt8 x k := by
  obtain ⟨y, hy, rfl⟩ := w_byte h0 h1
  have key : ∀ y : Nat, y < 256 → ∀ k : Nat, k < 8 → (((Int32.ofNat y).toUInt32 >>> ((Int32.ofNat k).toUInt32 &&& Int32.toUInt32 31)).toInt32) &&& (1 : Int32) = ((Int32.ofNat y) >>> Int32.ofNat k) &&& (1 : Int32) := by decide +kernel
  exact key y hy k hk
theorem bt8_01 {x : Int32} {k : Nat} (h0 : 0 ≤ x.toInt) (h1 : x.toInt ≤ 255) (hk : k < 8) : bt8 x k = 0 ∨ bt8 x k = 1 := by
  obtain ⟨y, hy, rfl⟩ := w_byte h0 h1
  have key : ∀ y : Nat, y < 256 → ∀ k : Nat, k < 8 → ((Int32.ofNat y) >>> Int32.ofNat k) &&& (1 : Int32) = 0 ∨ ((Int32.ofNat y) >>> Int32.ofNat k) &&& (1 : Int32) = 1 := by decide +kernel
  exact key y hy k hk
theorem sb8_rg {x b : Int32} {k : Nat} (h0 : 0 ≤ x.toInt) (h1 : x.toInt ≤ 255) (hk : k < 8) (hb : b = 0 ∨ b = 1) : 0 ≤ (sb8 x k b).toInt ∧ (sb8 x k b).toInt ≤ 255 := by
  obtain ⟨y, hy, rfl⟩ := w_byte h0 h1
  have key : ∀ y : Nat, y < 256 → ∀ k : Nat, k < 8 → (0 ≤ (sb8 (Int32.ofNat y) k 0).toInt ∧ (sb8 (Int32.ofNat y) k 0).toInt ≤ 255) ∧ 0 ≤ (sb8 (Int32.ofNat y) k 1).toInt ∧ (sb8 (Int32.ofNat y) k 1).toInt ≤ 255 := by decide +kernel
  rcases hb with rfl | rfl
  · exact (key y hy k hk).1
  · exact (key y hy k hk).2
theorem bt_sx (x : BitVec 64) (k : Nat) (hk : k < 64) : (x >>> k) &&& 1#64 = (x.sshiftRight k) &&& 1#64 := by
  apply BitVec.eq_of_getLsbD_eq
  intro j hj
  rw [BitVec.getLsbD_and, BitVec.getLsbD_and]
  by_cases h0 : j = 0
  · subst h0
    rw [BitVec.getLsbD_ushiftRight, BitVec.getLsbD_sshiftRight]
    first | (simp [hk]; done) | (rw [if_pos (by omega)]; simp)
  · simp [BitVec.getLsbD_one, h0]
theorem s_sh {x : Int64} {k : Nat} (hk : k < 64) : (x >>> Int64.ofNat k).toBitVec = x.toBitVec.sshiftRight k := by
  rw [Int64.toBitVec_shiftRight]
  have key : ∀ k : Nat, k < 64 → ((Int64.ofNat k).toBitVec.smod 64).toNat = k := by first | decide | (simp; done) | (simp [ms_0]; done)
  show x.toBitVec.sshiftRight ((Int64.ofNat k).toBitVec.smod 64).toNat = _
  rw [key k hk]
theorem u_sh {x : Int64} {k : Nat} (hk : k < 64) : ((x.toUInt64 >>> ((Int64.ofNat k).toUInt64 &&& Int64.toUInt64 63)).toInt64).toBitVec = x.toBitVec >>> k := by
  have key : ∀ k : Nat, k < 64 → (((Int64.ofNat k).toUInt64 &&& Int64.toUInt64 63).toBitVec % 64#64).toNat = k := by first | decide | (simp; done) | (simp [ms_0]; done)
  show (x.toUInt64 >>> ((Int64.ofNat k).toUInt64 &&& Int64.toUInt64 63)).toBitVec = _
  rw [UInt64.toBitVec_shiftRight]
  show x.toBitVec >>> (((Int64.ofNat k).toUInt64 &&& Int64.toUInt64 63).toBitVec % 64#64).toNat = _
  rw [key k hk]
theorem bt64_u {x : Int64} {k : Nat} (hk : k < 64) : ((((x.toUInt64 >>> ((Int64.ofNat k).toUInt64 &&& Int64.toUInt64 63)).toInt64) &&& (1 : Int64)).toInt32) = bt64 x k := by
  unfold bt64
  congr 1
  apply Int64.toBitVec_inj.mp
  rw [Int64.toBitVec_and, Int64.toBitVec_and, u_sh hk, s_sh hk]
  exact bt_sx x.toBitVec k hk
theorem bt64_01 {x : Int64} {k : Nat} : bt64 x k = 0 ∨ bt64 x k = 1 := by
  unfold bt64
  generalize x >>> Int64.ofNat k = y
  have h : (y &&& (1 : Int64)) = 0 ∨ (y &&& (1 : Int64)) = 1 := by
    have hb : (y.toBitVec &&& 1#64) = 0#64 ∨ (y.toBitVec &&& 1#64) = 1#64 := by
      cases hq : y.toBitVec.getLsbD 0 with
      | false =>
        left
        apply BitVec.eq_of_getLsbD_eq
        intro j hj
        rw [BitVec.getLsbD_and]
        by_cases h0 : j = 0
        · subst h0
          rw [hq]
          first | rfl | (simp; done) | decide
        · simp [BitVec.getLsbD_one, h0]
      | true =>
        right
        apply BitVec.eq_of_getLsbD_eq
        intro j hj
        rw [BitVec.getLsbD_and]
        by_cases h0 : j = 0
        · subst h0
          rw [hq]
          first | rfl | (simp; done) | decide
        · simp [BitVec.getLsbD_one, h0]
    rcases hb with hb | hb
    · left
      apply Int64.toBitVec_inj.mp
      rw [Int64.toBitVec_and]
      exact hb
    · right
      apply Int64.toBitVec_inj.mp
      rw [Int64.toBitVec_and]
      exact hb
  rcases h with h | h
  · left
    rw [h]
    decide
  · right
    rw [h]
    decide
/-- a bit is 0 or 1 -/
theorem ms_bq_01 {E : ms_E} {H : ms_H} {i : Nat} {b : Int32} (hm : ∀ a, a < 4096 → 0 ≤ (ms_mm E a).toInt ∧ (ms_mm E a).toInt ≤ 255) (hb : ∀ (k : Nat) (x : Int32), H.2.2[k]? = some x → 0 ≤ x.toInt ∧ x.toInt ≤ 255) (h : ms_bq E H i = some b) : b = 0 ∨ b = 1 := by
  unfold ms_bq at h
  have h8 : i % 8 < 8 := Nat.mod_lt _ (by first | decide | (simp; done) | (simp [ms_0]; done))
  by_cases h1 : H.1 = 1
  · rw [if_pos h1] at h
    by_cases h2 : (H.2.1 + Int64.ofNat (i / 8)).toInt < 0 ∨ 4095 < (H.2.1 + Int64.ofNat (i / 8)).toInt
    · rw [if_pos h2] at h; cases h
    · rw [if_neg h2] at h
      rw [← Option.some.inj h]
      have := hm (H.2.1 + Int64.ofNat (i / 8)).toInt.toNat (by omega)
      exact bt8_01 this.1 this.2 h8
  rw [if_neg h1] at h
  by_cases h2 : H.1 = 2
  · rw [if_pos h2] at h
    by_cases h3 : 63 < i
    · rw [if_pos h3] at h; cases h
    · rw [if_neg h3] at h
      rw [← Option.some.inj h]
      exact bt64_01
  rw [if_neg h2] at h
  by_cases h3 : H.1 = 3
  · rw [if_pos h3] at h
    by_cases h4 : 63 < i
    · rw [if_pos h4] at h; cases h
    · rw [if_neg h4] at h
      rw [← Option.some.inj h]
      exact bt64_01
  rw [if_neg h3] at h
  by_cases h4 : H.1 = 4
  · rw [if_pos h4] at h
    cases hx : H.2.2[i / 8]? with
    | none => rw [hx] at h; cases h
    | some x =>
      rw [hx] at h
      have h : some (bt8 x (i % 8)) = some b := h
      rw [← Option.some.inj h]
      have := hb _ _ hx
      exact bt8_01 this.1 this.2 h8
  · rw [if_neg h4] at h; cases h
end
section
/-! THE REFERENCE'S fetch, store. -/
theorem l_lit {n : Nat} (h : n < 9223372036854775808) : (Int64.ofNat n).toInt = n := by
  have e : Int64.ofNat n = Int64.ofInt (n : Int) := rfl
  rw [e, Int64.toInt_ofInt, l_bm (by omega) (by omega)]
theorem l_ofn {x : Int64} {k : Nat} (h : x.toInt = k) (hk : k < 9223372036854775808) : x = Int64.ofNat k := Int64.toInt_inj.mp (by rw [h, l_lit hk])
theorem q_d8 {x : Int64} {k : Nat} (h : x.toInt = k) (hk : k < 100000) : x / (8 : Int64) = Int64.ofNat (k / 8) ∧ ((x - x / (8 : Int64) * (8 : Int64)).toInt32) &&& (31 : Int32) = Int32.ofNat (k % 8) := by
  have h1 := l_div h (by first | decide | (simp; done) | (simp [ms_0]; done) : ((8 : Int64)).toInt = 8) (by omega) (by first | decide | (simp; done) | (simp [ms_0]; done))
  have h2 := l_rem h (by first | decide | (simp; done) | (simp [ms_0]; done) : ((8 : Int64)).toInt = 8) (by omega) (by first | decide | (simp; done) | (simp [ms_0]; done))
  refine ⟨l_ofn (by rw [h1]; omega) (by omega), ?_⟩
  have h3 : ((x - x / (8 : Int64) * (8 : Int64)).toInt32) = Int32.ofNat (k % 8) := i_of (l_2i (by rw [h2]; omega) (by omega) (by omega)) (by omega)
  rw [h3]
  exact sh_7 _ (Nat.mod_lt _ (by first | decide | (simp; done) | (simp [ms_0]; done)))
theorem q_i8 {x : Int32} {k : Nat} (h : x.toInt = k) (hk : k < 100000) : (x / (8 : Int32)).toInt = ((k / 8 : Nat) : Int) ∧ ((x - x / (8 : Int32) * (8 : Int32)) &&& (31 : Int32)) = Int32.ofNat (k % 8) ∧ (x - x / (8 : Int32) * (8 : Int32)) = Int32.ofNat (k % 8) := by
  have h1 := i_div h (by first | decide | (simp; done) | (simp [ms_0]; done) : ((8 : Int32)).toInt = 8) (by omega) (by first | decide | (simp; done) | (simp [ms_0]; done))
  have h2 := i_rem h (by first | decide | (simp; done) | (simp [ms_0]; done) : ((8 : Int32)).toInt = 8) (by omega) (by first | decide | (simp; done) | (simp [ms_0]; done))
  have h3 : (x - x / (8 : Int32) * (8 : Int32)) = Int32.ofNat (k % 8) := i_of (by rw [h2]; omega) (by omega)
  refine ⟨by rw [h1]; omega, ?_, h3⟩
  rw [h3]
  exact sh_7 _ (Nat.mod_lt _ (by first | decide | (simp; done) | (simp [ms_0]; done)))
theorem q_63 {x : Int64} {k : Nat} (h : x.toInt = k) (hk : k < 64) : ((x.toInt32).toInt64 &&& (63 : Int64)) = Int64.ofNat k := by
  have h1 : (x.toInt32).toInt64 = Int64.ofNat k := l_ofn (i_2l (l_2i h (by omega) (by omega))) (by omega)
  rw [h1]
  exact sh_63 k hk
def bt_v (b : Option Int32) : Int32 := match b with
  | none => -1
  | some x => x
section RFE
variable {n sl : Nat} {SH : Nat → Nat × Nat} {FI F2 : Nat → Nat → Int32} {FL L2 : Nat → Nat → Int64} {FR : Nat → Nat → Option Nat} {st : hS} {E : ms_E} {v : Int32}
theorem r_bit {j i : Nat} {p : ms_P} {a1 : Int32} {a2 : Int64} (hE : rE FI FL SH E) (h1 : a1.toInt = j) (hj : j < 16) (hp : rp FI FL j p) (h2 : a2.toInt = i) (hi : i ≤ 10000) : fX12_bit a1 a2 SH FI FL FR = bt_v (ms_bq E p.1 i) := by
  obtain ⟨p1, p2, p3, p4, p5, p6, p7, p8⟩ := hp
  obtain ⟨d1, d2⟩ := q_d8 h2 (by omega)
  unfold fX12_bit ms_bq
  rw [show a1.toInt.toNat = j by omega, p1, p2, d2, d1, h2]
  simp only [show ((1 : Int32)).toInt = 1 by first | decide | (simp; done) | (simp [ms_0]; done), show ((2 : Int32)).toInt = 2 by first | decide | (simp; done) | (simp [ms_0]; done), show ((3 : Int32)).toInt = 3 by first | decide | (simp; done) | (simp [ms_0]; done), show ((4 : Int32)).toInt = 4 by first | decide | (simp; done) | (simp [ms_0]; done), show ((0 : Int64)).toInt = 0 by first | decide | (simp; done) | (simp [ms_0]; done), show ((4095 : Int64)).toInt = 4095 by first | decide | (simp; done) | (simp [ms_0]; done), show ((63 : Int64)).toInt = 63 by first | decide | (simp; done) | (simp [ms_0]; done)]
  by_cases k1 : p.1.1 = 1
  · rw [if_pos k1, if_pos k1]
    by_cases g1 : (p.1.2.1 + Int64.ofNat (i / 8)).toInt < 0
    · rw [if_pos g1, if_pos (Or.inl g1)]; rfl
    rw [if_neg g1]
    by_cases g2 : 4095 < (p.1.2.1 + Int64.ofNat (i / 8)).toInt
    · rw [if_pos g2, if_pos (Or.inr g2)]; rfl
    · rw [if_neg g2, if_neg (fun e => e.elim g1 g2), l_2i (A := (p.1.2.1 + Int64.ofNat (i / 8)).toInt) rfl (by omega) (by omega), hE.2.1 _ (by omega)]
      rfl
  rw [if_neg k1, if_neg k1]
  by_cases k2 : p.1.1 = 2
  · repeat rw [if_pos k2]
    by_cases g : 63 < i
    · rw [if_pos (by omega : (63 : Int) < (i : Int)), if_pos g]; (try rfl)
    · have hr : 0 ≤ p.1.2.1.toInt ∧ p.1.2.1.toInt ≤ 31 := by
        rcases p5 with q | q | q | q | q
        · exfalso; have := q.1; omega
        · exfalso; have := q.1; omega
        · exact q.2.2
        · exfalso; have := q.1; omega
        · exfalso; have := q.1; omega
      rw [if_neg (by omega : ¬ (63 : Int) < (i : Int)), if_neg g, q_63 h2 (by omega), l_2i (A := p.1.2.1.toInt) rfl (by omega) (by omega), hE.1 _ (by omega)]
      rfl
  repeat rw [if_neg k2]
  by_cases k3 : p.1.1 = 3
  · repeat rw [if_pos k3]
    by_cases g : 63 < i
    · rw [if_pos (by omega : (63 : Int) < (i : Int)), if_pos g]; (try rfl)
    · rw [if_neg (by omega : ¬ (63 : Int) < (i : Int)), if_neg g, q_63 h2 (by omega)]
      (try rfl)
  repeat rw [if_neg k3]
  by_cases k4 : p.1.1 = 4
  · repeat rw [if_pos k4]
    have hl : p.1.2.1.toInt = p.1.2.2.length := by
      rcases p5 with q | q | q | q | q
      · exfalso; have := q.1; omega
      · exfalso; have := q.1; omega
      · exfalso; have := q.1; omega
      · exfalso; have := q.1; omega
      · exact q.2
    rw [l_lit (by omega), hl]
    by_cases g : (((i / 8 : Nat) : Int)) < p.1.2.2.length
    · rw [if_pos g]
      obtain ⟨b, hb⟩ := lx_i (L := p.1.2.2) (i := i / 8) (by omega)
      have ei : (((600 : Int32) * a1) + (Int64.ofNat (i / 8)).toInt32).toInt = ((600 * j + i / 8 : Nat) : Int) := by
        rw [i_add (i_mul (by first | decide | (simp; done) | (simp [ms_0]; done) : ((600 : Int32)).toInt = 600) h1 (by omega) (by omega)) (l_2i (l_lit (by omega)) (by omega) (by omega)) (by omega) (by omega)]
        omega
      rw [show (((600 : Int32) * a1) + (Int64.ofNat (i / 8)).toInt32).toInt.toNat = 600 * j + i / 8 by omega, hb, (p8 _ _ hb).1]
      rfl
    · rw [if_neg g, List.getElem?_eq_none (by omega)]
      rfl
  · repeat rw [if_neg k4]
    (try rfl)
/-- parts from the j-th on, the j-th from bit i on -/
def pl_r (B : ms_P → Nat) (L : List ms_P) (j i : Nat) : List (ms_P × Nat) := match L[j]? with
  | none => []
  | some p => pl_1 p (B p - i) i ++ pl_f B (L.drop (j + 1))
theorem pl_f_r {B : ms_P → Nat} {L : List ms_P} {j : Nat} : pl_f B (L.drop j) = pl_r B L j 0 := by
  unfold pl_r
  cases h : L[j]? with
  | none =>
    have : L.length ≤ j := by
      rcases Nat.lt_or_ge j L.length with h9 | h9
      · rw [List.getElem?_eq_getElem h9] at h; cases h
      · exact h9
    rw [List.drop_eq_nil_of_le this]
    rfl
  | some p =>
    obtain ⟨hl, e⟩ := List.getElem?_eq_some_iff.mp h
    rw [List.drop_eq_getElem_cons hl, e]
    rfl
theorem rp_at {Q : ms_Q} {j : Nat} {p : ms_P} (h : rr FI FL Q) (hp : Q.2.reverse[j]? = some p) : rp FI FL j p ∧ j < Q.2.length := by
  have hl : j < Q.2.length := by
    have := (List.getElem?_eq_some_iff.mp hp).1
    rw [List.length_reverse] at this
    exact this
  rw [List.getElem?_reverse hl] at hp
  have := lv_get h.2.2.2.2 hp
  rw [show Q.2.length - 1 - (Q.2.length - 1 - j) = j by omega] at this
  exact ⟨this, hl⟩
/-- where the next bit is -/
theorem r_goes {Q : ms_Q} {N : Nat} : ∀ (g j i : Nat) (FI : Nat → Nat → Int32), rr FI FL Q → (FI 121 58).toInt = j → (FI 121 59).toInt = i → i < 100000 → (Q.1 = false → i < N ∧ j = 0) → GX12_goes_0 g n sl SH FI FL FR v st → ∃ (j2 i2 : Nat) (F2 : Nat → Nat → Int32), st = (n, sl, SH, F2, FL, FR) ∧ (∀ c, c ≠ 121 → F2 c = FI c) ∧ (∀ k, k ≠ 58 → k ≠ 59 → F2 121 k = FI 121 k) ∧ (F2 121 58).toInt = j2 ∧ (F2 121 59).toInt = i2 ∧ i2 < 100000 ∧ pl_r (pl_B Q.1 N) Q.2.reverse j i = pl_r (pl_B Q.1 N) Q.2.reverse j2 i2 ∧ (v.toInt = 0 ↔ pl_r (pl_B Q.1 N) Q.2.reverse j2 i2 = []) ∧ (¬ v.toInt = 0 → j2 < Q.2.length ∧ ∃ p, Q.2.reverse[j2]? = some p ∧ i2 < pl_B Q.1 N p) ∧ (Q.1 = false → j2 = j ∧ i2 = i) := by
  intro g
  induction g with
  | zero => intro j i FI _ _ _ _ _ h; exact h.elim
  | succ g ih =>
    intro j i FI hr hj hi hi2 hns h
    have hlen := hr.1
    have h47 := hr.2.1
    -- at its end
    have fin : (∀ p, Q.2.reverse[j]? = some p → i < pl_B Q.1 N p) → RX12_goes_52 n sl SH FI FL FR v st → ∃ (j2 i2 : Nat) (F2 : Nat → Nat → Int32), st = (n, sl, SH, F2, FL, FR) ∧ (∀ c, c ≠ 121 → F2 c = FI c) ∧ (∀ k, k ≠ 58 → k ≠ 59 → F2 121 k = FI 121 k) ∧ (F2 121 58).toInt = j2 ∧ (F2 121 59).toInt = i2 ∧ i2 < 100000 ∧ pl_r (pl_B Q.1 N) Q.2.reverse j i = pl_r (pl_B Q.1 N) Q.2.reverse j2 i2 ∧ (v.toInt = 0 ↔ pl_r (pl_B Q.1 N) Q.2.reverse j2 i2 = []) ∧ (¬ v.toInt = 0 → j2 < Q.2.length ∧ ∃ p, Q.2.reverse[j2]? = some p ∧ i2 < pl_B Q.1 N p) ∧ (Q.1 = false → j2 = j ∧ i2 = i) := by
      intro hB h
      unfold RX12_goes_52 at h
      rw [hj, hlen] at h
      rcases h with ⟨h0, e1, e⟩ | ⟨h0, e1, e⟩
      · obtain ⟨p, hp⟩ := lx_i (L := Q.2.reverse) (i := j) (by rw [List.length_reverse]; omega)
        have hb := hB p hp
        refine ⟨j, i, FI, e, fun _ _ => rfl, fun _ _ _ => rfl, hj, hi, hi2, rfl, ⟨fun e0 => ?_, fun e0 => ?_⟩, fun _ => ⟨by omega, p, hp, hb⟩, fun _ => ⟨rfl, rfl⟩⟩
        · rw [e1] at e0
          exact absurd e0 (by first | decide | (simp; done) | (simp [ms_0]; done))
        · exfalso
          unfold pl_r at e0
          rw [hp] at e0
          have e0 : pl_1 p (pl_B Q.1 N p - i) i ++ pl_f (pl_B Q.1 N) (Q.2.reverse.drop (j + 1)) = [] := e0
          rw [show pl_B Q.1 N p - i = (pl_B Q.1 N p - i - 1) + 1 by omega, pl_1] at e0
          cases e0
      · have hnone : Q.2.reverse[j]? = none := List.getElem?_eq_none (by rw [List.length_reverse]; omega)
        refine ⟨j, i, FI, e, fun _ _ => rfl, fun _ _ _ => rfl, hj, hi, hi2, rfl, ⟨fun _ => ?_, fun _ => by rw [e1]; (first | decide | (simp; done) | (simp [ms_0]; done))⟩, fun e0 => absurd (by rw [e1]; (first | decide | (simp; done) | (simp [ms_0]; done))) e0, fun _ => ⟨rfl, rfl⟩⟩
        unfold pl_r
        rw [hnone]
    rcases h with ⟨h0, h⟩ | ⟨h0, h⟩
    · have hf := h47.mp h0
      refine fin (fun p hp => ?_) h
      unfold pl_B
      rw [hf, if_neg (by first | decide | (simp; done) | (simp [ms_0]; done))]
      exact (hns hf).1
    · have ht : Q.1 = true := by
        cases e : Q.1 with
        | true => rfl
        | false => exact absurd (h47.mpr e) h0
      rw [hj, hlen] at h
      rcases h with ⟨h1, -, h⟩ | ⟨h1, h⟩
      · obtain ⟨p, hp⟩ := lx_i (L := Q.2.reverse) (i := j) (by rw [List.length_reverse]; omega)
        obtain ⟨hpp, hjl⟩ := rp_at hr hp
        have hw := hpp.2.2.1
        have hw2 := hpp.2.2.2.2.2.1
        rw [show (j : Int).toNat = j by omega, hi, hw] at h
        have eB : pl_B Q.1 N p = p.2.1.toNat := by unfold pl_B; rw [ht, if_pos rfl]
        rcases h with ⟨h2, h⟩ | ⟨h2, h⟩
        · refine fin (fun p2 hp2 => ?_) h
          rw [hp] at hp2
          rw [← Option.some.inj hp2, eB]
          omega
        · have nj : (FI 121 58 + (1 : Int32)).toInt = ((j + 1 : Nat) : Int) := by
            have := hr.2.2.1.2
            rw [i_add hj (by first | decide | (simp; done) | (simp [ms_0]; done) : ((1 : Int32)).toInt = 1) (by omega) (by omega)]
            omega
          obtain ⟨j2, i2, F2, s1, s2, s3, s4, s5, s6, s7, s8, s9, s10⟩ := ih (j + 1) 0 (h_up (h_up FI 121 58 (FI 121 58 + (1 : Int32))) 121 59 ((0 : Int32))) (rr_fr hr (fun c hc => by rw [h_up_nc (by omega), h_up_nc (by omega)]) rfl (by rw [h_up_x (by first | decide | (simp; done) | (simp [ms_0]; done)), h_up_x (by first | decide | (simp; done) | (simp [ms_0]; done))]) (by rw [h_up_x (by first | decide | (simp; done) | (simp [ms_0]; done)), h_up_x (by first | decide | (simp; done) | (simp [ms_0]; done))])) (by rw [h_up_x (by first | decide | (simp; done) | (simp [ms_0]; done)), h_up_eq]; exact nj) (by rw [h_up_eq]; (first | decide | (simp; done) | (simp [ms_0]; done))) (by first | decide | (simp; done) | (simp [ms_0]; done)) (fun e => by rw [ht] at e; cases e) h
          refine ⟨j2, i2, F2, s1, fun c hc => by rw [s2 c hc, h_up_nc hc, h_up_nc hc], fun k k1 k2 => by rw [s3 k k1 k2, h_up_ne k2, h_up_ne k1], s4, s5, s6, ?_, s8, s9, fun e => by rw [ht] at e; cases e⟩
          rw [← s7]
          have ez : pl_B Q.1 N p - i = 0 := by rw [eB]; omega
          show pl_r (pl_B Q.1 N) Q.2.reverse j i = _
          rw [← pl_f_r]
          unfold pl_r
          rw [hp]
          show pl_1 p (pl_B Q.1 N p - i) i ++ pl_f (pl_B Q.1 N) (Q.2.reverse.drop (j + 1)) = _
          rw [ez]
          rfl
      · refine fin (fun p hp => ?_) h
        exfalso
        have := (List.getElem?_eq_some_iff.mp hp).1
        rw [List.length_reverse] at this
        omega
end RFE
end
section
/-! THE REFERENCE'S fetch, store: their loops. -/
section RFO
variable {n sl : Nat} {SH : Nat → Nat × Nat} {FR : Nat → Nat → Option Nat} {st : hS} {v : Int32}
theorem pl_r_c {B : ms_P → Nat} {L : List ms_P} {j i : Nat} {p : ms_P} (hp : L[j]? = some p) (hi : i < B p) : pl_r B L j i = (p, i) :: pl_r B L j (i + 1) := by
  unfold pl_r
  rw [hp]
  show pl_1 p (B p - i) i ++ pl_f B (L.drop (j + 1)) = (p, i) :: (pl_1 p (B p - (i + 1)) (i + 1) ++ pl_f B (L.drop (j + 1)))
  rw [show B p - i = (B p - (i + 1)) + 1 by omega, pl_1]
  rfl
def rE_mem (E : ms_E) : Prop := ∀ a, a < 4096 → 0 ≤ (ms_mm E a).toInt ∧ (ms_mm E a).toInt ≤ 255
theorem rp_by {FI : Nat → Nat → Int32} {FL : Nat → Nat → Int64} {j : Nat} {p : ms_P} (h : rp FI FL j p) : ∀ (k : Nat) (x : Int32), p.1.2.2[k]? = some x → 0 ≤ x.toInt ∧ x.toInt ≤ 255 := fun k x hk => (h.2.2.2.2.2.2.2 k x hk).2
theorem r_fe67 {a1 : Int32} {Q : ms_Q} {N : Nat} {E : ms_E} {FL : Nat → Nat → Int64} (hN : a1.toInt = N) (hN2 : N ≤ 512) (hm : rE_mem E) : ∀ (g k j i : Nat) (s : (Nat → Int32) × Nat) (l2 l3 : Int32) (FI : Nat → Nat → Int32), l3.toInt = k → l2.toInt = s.2 → s.2 ≤ k → k ≤ N → rr FI FL Q → rE FI FL SH E → (∀ x, x < 64 → FI 148 x = s.1 x) → (FI 121 58).toInt = j → (FI 121 59).toInt = i → i ≤ 10000 → (Q.1 = false → i = k ∧ j = 0) → GX12_fetch_67 a1 g l2 l3 n sl SH FI FL FR v st → v.toInt = (fe E N (pl_r (pl_B Q.1 N) Q.2.reverse j i) k s).2 ∧ ∃ F2, st = (n, sl, SH, F2, FL, FR) ∧ (∀ c, c ≠ 121 → c ≠ 148 → F2 c = FI c) ∧ (∀ x, x ≠ 58 → x ≠ 59 → F2 121 x = FI 121 x) ∧ (∀ x, x < 64 → F2 148 x = (fe E N (pl_r (pl_B Q.1 N) Q.2.reverse j i) k s).1 x) := by
  intro g
  induction g with
  | zero => intro k j i s l2 l3 FI _ _ _ _ _ _ _ _ _ _ _ h; exact h.elim
  | succ g ih =>
    intro k j i s l2 l3 FI h3 h2 hsk hkN hr hE ho hj hi hik hns h
    rcases h with ⟨h0, h⟩ | ⟨h0, e1, e⟩
    · rw [h3, hN] at h0
      obtain ⟨v1, n1, sl1, SH1, FI1, FL1, FR1, hg, h⟩ := h
      obtain ⟨g2, hg⟩ := hg
      obtain ⟨j2, i2, F2, s1, s2, s3, s4, s5, s6, s7, s8, s9, s10⟩ := r_goes (N := N) g2 j i FI hr hj hi (by omega) (fun e => ⟨by have := (hns e).1; omega, (hns e).2⟩) hg
      first | (obtain ⟨zz1, zz2, zz3, zz4, zz5, zz6⟩ := st_c s1; (try subst zz1); (try subst zz2); (try subst zz3); (try subst zz4); (try subst zz5); (try subst zz6)) | cases s1
      have hr2 : rr F2 FL Q := rr_fr hr (fun c hc => s2 c (by omega)) rfl (s3 46 (by first | decide | (simp; done) | (simp [ms_0]; done)) (by first | decide | (simp; done) | (simp [ms_0]; done))) (s3 47 (by first | decide | (simp; done) | (simp [ms_0]; done)) (by first | decide | (simp; done) | (simp [ms_0]; done)))
      have hE2 : rE F2 FL SH E := rE_fr hE (s2 123 (by first | decide | (simp; done) | (simp [ms_0]; done))) (s2 124 (by first | decide | (simp; done) | (simp [ms_0]; done))) (s2 125 (by first | decide | (simp; done) | (simp [ms_0]; done))) (fun k hk => s3 k (by omega) (by omega)) (fun _ _ => rfl) rfl
      rw [s7]
      rcases h with ⟨h1, e1, e⟩ | ⟨h1, -, h⟩
      · rw [s8.mp h1]
        exact ⟨by rw [e1]; exact h2, F2, e, fun c c1 _ => s2 c c1, s3, fun x hx => by rw [s2 148 (by first | decide | (simp; done) | (simp [ms_0]; done))]; exact ho x hx⟩
      · obtain ⟨hj2, p, hp, hi2⟩ := s9 h1
        obtain ⟨hpp, -⟩ := rp_at hr2 hp
        have hl16 := hr.2.2.1.2
        obtain ⟨p1, p2, p3, p4, p5, p6, p7, p8⟩ := id hpp
        have i2b : i2 ≤ 4096 + 512 := by
          unfold pl_B at hi2
          split at hi2
          · omega
          · omega
        have ea : ((F2 146 (F2 121 58).toInt.toNat).toInt64 + (F2 121 59).toInt64).toInt = ((p.2.2.toNat + i2 : Nat) : Int) := by
          rw [show (F2 121 58).toInt.toNat = j2 by omega, l_add (i_2l p4) (i_2l s5) (by omega) (by omega)]
          omega
        have hbit := r_bit (FR := FR) hE2 s4 (by omega) hpp ea (by omega)
        rw [hbit] at h
        rw [pl_r_c hp hi2, fe, if_pos (by omega)]
        have n59 : (F2 121 59 + (1 : Int32)).toInt = ((i2 + 1 : Nat) : Int) := by
          rw [i_add s5 (by first | decide | (simp; done) | (simp [ms_0]; done) : ((1 : Int32)).toInt = 1) (by omega) (by omega)]
          omega
        have nk : (l3 + (1 : Int32)).toInt = ((k + 1 : Nat) : Int) := by
          rw [i_add h3 (by first | decide | (simp; done) | (simp [ms_0]; done) : ((1 : Int32)).toInt = 1) (by omega) (by omega)]
          omega
        -- on
        have step : ∀ (F3 : Nat → Nat → Int32) (l2' : Int32) (s' : (Nat → Int32) × Nat), fe_st E k (p, i2) s = s' → l2'.toInt = s'.2 → s'.2 ≤ k + 1 → (∀ c, c ≠ 148 → F3 c = F2 c) → (∀ x, x < 64 → F3 148 x = s'.1 x) → GX12_fetch_67 a1 g l2' (l3 + (1 : Int32)) n sl SH (h_up F3 121 59 (F3 121 59 + (1 : Int32))) FL FR v st → v.toInt = (fe E N (pl_r (pl_B Q.1 N) Q.2.reverse j2 (i2 + 1)) (k + 1) (fe_st E k (p, i2) s)).2 ∧ ∃ F4, st = (n, sl, SH, F4, FL, FR) ∧ (∀ c, c ≠ 121 → c ≠ 148 → F4 c = FI c) ∧ (∀ x, x ≠ 58 → x ≠ 59 → F4 121 x = FI 121 x) ∧ (∀ x, x < 64 → F4 148 x = (fe E N (pl_r (pl_B Q.1 N) Q.2.reverse j2 (i2 + 1)) (k + 1) (fe_st E k (p, i2) s)).1 x) := by
          intro F3 l2' s' es hl2 hs2 f1 f2 h
          rw [es]
          have e121 : F3 121 = F2 121 := f1 121 (by first | decide | (simp; done) | (simp [ms_0]; done))
          have hE3 : rE (h_up F3 121 59 (F3 121 59 + (1 : Int32))) FL SH E := rE_fr hE2 (by rw [h_up_nc (by first | decide | (simp; done) | (simp [ms_0]; done)), f1 123 (by first | decide | (simp; done) | (simp [ms_0]; done))]) (by rw [h_up_nc (by first | decide | (simp; done) | (simp [ms_0]; done)), f1 124 (by first | decide | (simp; done) | (simp [ms_0]; done))]) (by rw [h_up_nc (by first | decide | (simp; done) | (simp [ms_0]; done)), f1 125 (by first | decide | (simp; done) | (simp [ms_0]; done))]) (fun k hk => by rw [h_up_ne (by omega), e121]) (fun _ _ => rfl) rfl
          have hr3 : rr (h_up F3 121 59 (F3 121 59 + (1 : Int32))) FL Q := rr_fr hr2 (fun c hc => by rw [h_up_nc (by omega), f1 c (by omega)]) rfl (by rw [h_up_ne (by first | decide | (simp; done) | (simp [ms_0]; done)), e121]) (by rw [h_up_ne (by first | decide | (simp; done) | (simp [ms_0]; done)), e121])
          obtain ⟨y1, F4, y2, y3, y4, y5⟩ := ih (k + 1) j2 (i2 + 1) s' l2' (l3 + (1 : Int32)) _ nk hl2 hs2 (by omega) hr3 hE3 (fun x hx => by rw [h_up_nc (by first | decide | (simp; done) | (simp [ms_0]; done))]; exact f2 x hx) (by rw [h_up_ne (by first | decide | (simp; done) | (simp [ms_0]; done)), e121]; exact s4) (by rw [h_up_eq, e121]; exact n59) (by omega) (fun e => ⟨by have := (s10 e).2; have := (hns e).1; omega, by have := (s10 e).1; have := (hns e).2; omega⟩) h
          exact ⟨y1, F4, y2, fun c c1 c2 => by rw [y3 c c1 c2, h_up_nc c1, f1 c c2, s2 c c1], fun x x1 x2 => by rw [y4 x x1 x2, h_up_ne x2, e121, s3 x x1 x2], y5⟩
        cases hb : ms_bq E p.1 (p.2.2.toNat + i2) with
        | none =>
          rw [hb] at h
          have h := P_p h (by show ((-1 : Int32)).toInt = ((-1 : Int32)).toInt; rfl)
          refine step F2 l2 s ?_ h2 (by omega) (fun _ _ => rfl) (fun x hx => by rw [s2 148 (by first | decide | (simp; done) | (simp [ms_0]; done))]; exact ho x hx) h
          unfold fe_st
          (try dsimp only)
          rw [hb]
        | some b =>
          rw [hb] at h
          have h01 := ms_bq_01 hm (rp_by hpp) hb
          have h := P_n h (by
            show ¬ b.toInt = ((-1 : Int32)).toInt
            rcases h01 with e | e
            · rw [e]; (first | decide | (simp; done) | (simp [ms_0]; done))
            · rw [e]; (first | decide | (simp; done) | (simp [ms_0]; done)))
          obtain ⟨-, -, -, -, -, h⟩ := h
          obtain ⟨d1, d2, d3⟩ := q_i8 h3 (by omega)
          rw [show (l3 / (8 : Int32)).toInt.toNat = k / 8 by omega, d2] at h
          refine step _ (l2 + (1 : Int32)) (va_up s.1 (k / 8) (s.1 (k / 8) ||| (b <<< Int32.ofNat (k % 8))), s.2 + 1) ?_ ?_ (by show s.2 + 1 ≤ k + 1; omega) (fun c hc => h_up_nc hc) (fun x hx => ?_) h
          · unfold fe_st
            (try dsimp only)
            rw [hb]
          · rw [i_add h2 (by first | decide | (simp; done) | (simp [ms_0]; done) : ((1 : Int32)).toInt = 1) (by omega) (by omega)]
            show (s.2 : Int) + 1 = ((s.2 + 1 : Nat) : Int)
            omega
          · have e148 : F2 148 = FI 148 := s2 148 (by first | decide | (simp; done) | (simp [ms_0]; done))
            show h_up F2 148 (k / 8) (F2 148 (k / 8) ||| bt_v (some b) <<< Int32.ofNat (k % 8)) 148 x = va_up s.1 (k / 8) (s.1 (k / 8) ||| (b <<< Int32.ofNat (k % 8))) x
            by_cases ex : x = k / 8
            · subst ex
              rw [h_up_eq, va_s, e148, ho _ hx]
              rfl
            · rw [h_up_ne ex, va_o ex, e148]
              exact ho x hx
    · rw [h3, hN] at h0
      rw [fe_n (by omega)]
      exact ⟨by rw [e1]; exact h2, FI, e, fun _ _ _ => rfl, fun _ _ _ => rfl, ho⟩
end RFO
end
section
/-! THE REFERENCE'S store, fetch: whole. -/
section RSO
variable {n sl : Nat} {SH : Nat → Nat × Nat} {FI : Nat → Nat → Int32} {FL : Nat → Nat → Int64} {FR : Nat → Nat → Option Nat} {st : hS} {E : ms_E} {v : Int32}
theorem rE_f2 {F2 : Nat → Nat → Int32} {L2 : Nat → Nat → Int64} (h : rE FI FL SH E) (e1 : F2 123 = FI 123) (e2 : F2 124 = FI 124) (e3 : F2 125 = FI 125) (e4 : ∀ k, 5 ≤ k → k ≤ 11 → F2 121 k = FI 121 k) (e5 : ∀ k, 5 ≤ k → k ≤ 11 → L2 121 k = FL 121 k) (e6 : L2 122 = FL 122) : rE F2 L2 SH E := by
  obtain ⟨h1, h2, h3, h4, h5, h6, h7, h8⟩ := h
  refine ⟨by rw [e6]; exact h1, by rw [e1]; exact h2, fun k hk => ?_, by rw [e4 5 (by first | decide | (simp; done) | (simp [ms_0]; done)) (by first | decide | (simp; done) | (simp [ms_0]; done))]; exact h4, by rw [e4 6 (by first | decide | (simp; done) | (simp [ms_0]; done)) (by first | decide | (simp; done) | (simp [ms_0]; done))]; exact h5, by rw [e5 7 (by first | decide | (simp; done) | (simp [ms_0]; done)) (by first | decide | (simp; done) | (simp [ms_0]; done))]; exact h6, by rw [e4 10 (by first | decide | (simp; done) | (simp [ms_0]; done)) (by first | decide | (simp; done) | (simp [ms_0]; done)), e5 8 (by first | decide | (simp; done) | (simp [ms_0]; done)) (by first | decide | (simp; done) | (simp [ms_0]; done))]; exact h7, by rw [e4 11 (by first | decide | (simp; done) | (simp [ms_0]; done)) (by first | decide | (simp; done) | (simp [ms_0]; done)), e5 9 (by first | decide | (simp; done) | (simp [ms_0]; done)) (by first | decide | (simp; done) | (simp [ms_0]; done))]; exact h8⟩
  rw [e3]
  exact ⟨(h3 k hk).1, (h3 k hk).2.1, bk_fr (h3 k hk).2.2 e2⟩
theorem rE_um {a : Nat} {x : Int32} (h : rE FI FL SH E) : rE (h_up FI 123 a x) FL SH (ms_um E a x) := by
  obtain ⟨h1, h2, h3, h4, h5, h6, h7, h8⟩ := h
  refine ⟨h1, fun i hi => ?_, fun k hk => ?_, ?_, ?_, h6, ?_, ?_⟩
  · show h_up FI 123 a x 123 i = va_up (ms_mm E) a x i
    by_cases e : i = a
    · subst e
      rw [h_up_eq, va_s]
    · rw [h_up_ne e, va_o e]
      exact h2 i hi
  · rw [h_up_nc (by first | decide | (simp; done) | (simp [ms_0]; done))]
    exact ⟨(h3 k hk).1, (h3 k hk).2.1, bk_fr (h3 k hk).2.2 (h_up_nc (by first | decide | (simp; done) | (simp [ms_0]; done)))⟩
  · rw [h_up_nc (by first | decide | (simp; done) | (simp [ms_0]; done))]; exact h4
  · rw [h_up_nc (by first | decide | (simp; done) | (simp [ms_0]; done))]; exact h5
  · rw [h_up_nc (by first | decide | (simp; done) | (simp [ms_0]; done))]; exact h7
  · rw [h_up_nc (by first | decide | (simp; done) | (simp [ms_0]; done))]; exact h8
theorem rE_ur {r : Nat} {x : Int64} (h : rE FI FL SH E) : rE FI (h_up FL 122 r x) SH (ms_ur E r x) := by
  obtain ⟨h1, h2, h3, h4, h5, h6, h7, h8⟩ := h
  refine ⟨fun i hi => ?_, h2, h3, h4, h5, ?_, ?_, ?_⟩
  · show h_up FL 122 r x 122 i = va_up (ms_rg E) r x i
    by_cases e : i = r
    · subst e
      rw [h_up_eq, va_s]
    · rw [h_up_ne e, va_o e]
      exact h1 i hi
  · rw [h_up_nc (by first | decide | (simp; done) | (simp [ms_0]; done))]; exact h6
  · rw [h_up_nc (by first | decide | (simp; done) | (simp [ms_0]; done))]; exact h7
  · rw [h_up_nc (by first | decide | (simp; done) | (simp [ms_0]; done))]; exact h8
theorem so_mem {H : ms_H} {i : Nat} {b : Int32} {E2 : ms_E} (hm : rE_mem E) (hb : b = 0 ∨ b = 1) (h : so_1 E H i b = some E2) : rE_mem E2 := by
  unfold so_1 at h
  by_cases h1 : H.1 = 1
  · rw [if_pos h1] at h
    by_cases h2 : (H.2.1 + Int64.ofNat (i / 8)).toInt < 0 ∨ 4095 < (H.2.1 + Int64.ofNat (i / 8)).toInt
    · rw [if_pos h2] at h; cases h
    · rw [if_neg h2] at h
      rw [← Option.some.inj h]
      intro a ha
      show 0 ≤ (va_up (ms_mm E) _ _ a).toInt ∧ (va_up (ms_mm E) _ _ a).toInt ≤ 255
      by_cases e : a = (H.2.1 + Int64.ofNat (i / 8)).toInt.toNat
      · subst e
        rw [va_s]
        have := hm _ ha
        exact sb8_rg this.1 this.2 (Nat.mod_lt _ (by first | decide | (simp; done) | (simp [ms_0]; done))) hb
      · rw [va_o e]
        exact hm a ha
  · rw [if_neg h1] at h
    by_cases h2 : H.1 = 2
    · rw [if_pos h2] at h
      by_cases h3 : 63 < i
      · rw [if_pos h3] at h; cases h
      · rw [if_neg h3] at h
        rw [← Option.some.inj h]
        exact hm
    · rw [if_neg h2] at h; cases h
theorem r_puts {j i : Nat} {p : ms_P} {a1 b : Int32} {a2 : Int64} (hE : rE FI FL SH E) (h1 : a1.toInt = j) (hj : j < 16) (hp : rp FI FL j p) (h2 : a2.toInt = i) (hi : i ≤ 10000) (h : RX12_puts_ a1 a2 b n sl SH FI FL FR v st) : ∃ F2 L2, st = (n, sl, SH, F2, L2, FR) ∧ (∀ c, c ≠ 123 → F2 c = FI c) ∧ (∀ c, c ≠ 122 → L2 c = FL c) ∧ ((so_1 E p.1 i b = none ∧ v.toInt = 0 ∧ F2 = FI ∧ L2 = FL) ∨ (∃ E2, so_1 E p.1 i b = some E2 ∧ ¬ v.toInt = 0 ∧ rE F2 L2 SH E2)) := by
  obtain ⟨p1, p2, p3, p4, p5, p6, p7, p8⟩ := hp
  obtain ⟨d1, d2⟩ := q_d8 h2 (by omega)
  have no : so_1 E p.1 i b = none → v = 0 → st = (n, sl, SH, FI, FL, FR) → ∃ F2 L2, st = (n, sl, SH, F2, L2, FR) ∧ (∀ c, c ≠ 123 → F2 c = FI c) ∧ (∀ c, c ≠ 122 → L2 c = FL c) ∧ ((so_1 E p.1 i b = none ∧ v.toInt = 0 ∧ F2 = FI ∧ L2 = FL) ∨ (∃ E2, so_1 E p.1 i b = some E2 ∧ ¬ v.toInt = 0 ∧ rE F2 L2 SH E2)) := fun q1 q2 q3 => ⟨FI, FL, q3, fun _ _ => rfl, fun _ _ => rfl, Or.inl ⟨q1, by rw [q2]; (first | decide | (simp; done) | (simp [ms_0]; done)), rfl, rfl⟩⟩
  obtain ⟨-, h⟩ := h
  rw [show a1.toInt.toNat = j by omega, p1, show ((1 : Int32)).toInt = 1 by first | decide | (simp; done) | (simp [ms_0]; done)] at h
  rcases h with ⟨k1, h⟩ | ⟨k1, h⟩
  · obtain ⟨-, -, h⟩ := h
    rw [p2, d1, show ((0 : Int64)).toInt = 0 by first | decide | (simp; done) | (simp [ms_0]; done)] at h
    rcases h with ⟨g1, e1, e⟩ | ⟨g1, h⟩
    · exact no (by unfold so_1; rw [if_pos k1, if_pos (Or.inl g1)]) e1 e
    rw [show ((4095 : Int64)).toInt = 4095 by first | decide | (simp; done) | (simp [ms_0]; done)] at h
    rcases h with ⟨g2, e1, e⟩ | ⟨g2, h⟩
    · exact no (by unfold so_1; rw [if_pos k1, if_pos (Or.inr g2)]) e1 e
    · obtain ⟨-, -, -, e1, e⟩ := h
      have d2' : ((a2 - Int64.ofNat (i / 8) * (8 : Int64)).toInt32) &&& (31 : Int32) = Int32.ofNat (i % 8) := by rw [← d1]; exact d2
      rw [d2', l_2i (A := (p.1.2.1 + Int64.ofNat (i / 8)).toInt) rfl (by omega) (by omega), hE.2.1 _ (by omega)] at e
      refine ⟨_, _, e, fun c hc => h_up_nc hc, fun _ _ => rfl, Or.inr ⟨_, ?_, by rw [e1]; (first | decide | (simp; done) | (simp [ms_0]; done)), rE_um hE⟩⟩
      unfold so_1
      rw [if_pos k1, if_neg (fun e => e.elim g1 g2)]
      rfl
  · rw [show ((2 : Int32)).toInt = 2 by first | decide | (simp; done) | (simp [ms_0]; done)] at h
    rcases h with ⟨k2, h⟩ | ⟨k2, e1, e⟩
    · rw [h2, show ((63 : Int64)).toInt = 63 by first | decide | (simp; done) | (simp [ms_0]; done)] at h
      rcases h with ⟨g, e1, e⟩ | ⟨g, h⟩
      · exact no (by unfold so_1; rw [if_neg k1, if_pos k2, if_pos (by omega)]) e1 e
      · have hr : 0 ≤ p.1.2.1.toInt ∧ p.1.2.1.toInt ≤ 31 := by
          rcases p5 with q | q | q | q | q
          · exfalso; have := q.1; omega
          · exfalso; have := q.1; omega
          · exact q.2.2
          · exfalso; have := q.1; omega
          · exfalso; have := q.1; omega
        obtain ⟨-, -, -, e1, e⟩ := h
        rw [p2, q_63 h2 (by omega), l_2i (A := p.1.2.1.toInt) rfl (by omega) (by omega), hE.1 _ (by omega)] at e
        refine ⟨_, _, e, fun _ _ => rfl, fun c hc => h_up_nc hc, Or.inr ⟨_, ?_, by rw [e1]; (first | decide | (simp; done) | (simp [ms_0]; done)), rE_ur hE⟩⟩
        unfold so_1
        rw [if_neg k1, if_pos k2, if_neg (by omega)]
        rfl
    · exact no (by unfold so_1; rw [if_neg k1, if_neg k2]) e1 e
end RSO
section RSP
variable {n sl : Nat} {SH : Nat → Nat × Nat} {FR : Nat → Nat → Option Nat} {st : hS} {v : Int32}
theorem r_so47 {a1 : Int32} {Q : ms_Q} {N : Nat} {tp : Nat → Int32} (hN : a1.toInt = N) (hN2 : N ≤ 512) (htp : ∀ x, 8 * x < N → 0 ≤ (tp x).toInt ∧ (tp x).toInt ≤ 255) : ∀ (g k j i : Nat) (s : ms_E × Nat) (l2 l3 : Int32) (FI : Nat → Nat → Int32) (FL : Nat → Nat → Int64), l3.toInt = k → l2.toInt = s.2 → s.2 ≤ k → k ≤ N → rr FI FL Q → rE FI FL SH s.1 → rE_mem s.1 → (∀ x, 8 * x < N → FI 126 x = tp x) → (FI 121 58).toInt = j → (FI 121 59).toInt = i → i ≤ 10000 → (Q.1 = false → i = k ∧ j = 0) → GX12_store_47 a1 g l2 l3 n sl SH FI FL FR v st → v.toInt = (so tp N (pl_r (pl_B Q.1 N) Q.2.reverse j i) k s).2 ∧ ∃ F2 L2, st = (n, sl, SH, F2, L2, FR) ∧ (∀ c, c ≠ 121 → c ≠ 123 → F2 c = FI c) ∧ (∀ c, c ≠ 122 → L2 c = FL c) ∧ (∀ x, x ≠ 58 → x ≠ 59 → x ≠ 13 → F2 121 x = FI 121 x) ∧ F2 121 13 = 0 ∧ rE F2 L2 SH (so tp N (pl_r (pl_B Q.1 N) Q.2.reverse j i) k s).1 ∧ rE_mem (so tp N (pl_r (pl_B Q.1 N) Q.2.reverse j i) k s).1 := by
  intro g
  induction g with
  | zero => intro k j i s l2 l3 FI FL _ _ _ _ _ _ _ _ _ _ _ _ h; exact h.elim
  | succ g ih =>
    intro k j i s l2 l3 FI FL h3 h2 hsk hkN hr hE hm ho hj hi hik hns h
    rcases h with ⟨h0, h⟩ | ⟨h0, e1, e⟩
    · rw [h3, hN] at h0
      obtain ⟨v1, n1, sl1, SH1, FI1, FL1, FR1, hg, h⟩ := h
      obtain ⟨g2, hg⟩ := hg
      obtain ⟨j2, i2, F2, s1, s2, s3, s4, s5, s6, s7, s8, s9, s10⟩ := r_goes (N := N) g2 j i FI hr hj hi (by omega) (fun e => ⟨by have := (hns e).1; omega, (hns e).2⟩) hg
      first | (obtain ⟨zz1, zz2, zz3, zz4, zz5, zz6⟩ := st_c s1; (try subst zz1); (try subst zz2); (try subst zz3); (try subst zz4); (try subst zz5); (try subst zz6)) | cases s1
      have hr2 : rr F2 FL Q := rr_fr hr (fun c hc => s2 c (by omega)) rfl (s3 46 (by first | decide | (simp; done) | (simp [ms_0]; done)) (by first | decide | (simp; done) | (simp [ms_0]; done))) (s3 47 (by first | decide | (simp; done) | (simp [ms_0]; done)) (by first | decide | (simp; done) | (simp [ms_0]; done)))
      have hE2 : rE F2 FL SH s.1 := rE_f2 hE (s2 123 (by first | decide | (simp; done) | (simp [ms_0]; done))) (s2 124 (by first | decide | (simp; done) | (simp [ms_0]; done))) (s2 125 (by first | decide | (simp; done) | (simp [ms_0]; done))) (fun k _ _ => s3 k (by omega) (by omega)) (fun _ _ _ => rfl) rfl
      rw [s7]
      rcases h with ⟨h1, e1, e⟩ | ⟨h1, -, h⟩
      · rw [s8.mp h1]
        refine ⟨by rw [e1]; exact h2, _, _, e, fun c c1 _ => by rw [h_up_nc c1, s2 c c1], fun _ _ => rfl, fun x x1 x2 x3 => by rw [h_up_ne x3, s3 x x1 x2], h_up_eq, ?_, hm⟩
        exact rE_f2 hE2 (h_up_nc (by first | decide | (simp; done) | (simp [ms_0]; done))) (h_up_nc (by first | decide | (simp; done) | (simp [ms_0]; done))) (h_up_nc (by first | decide | (simp; done) | (simp [ms_0]; done))) (fun k _ _ => h_up_ne (by omega)) (fun _ _ _ => rfl) rfl
      · obtain ⟨hj2, p, hp, hi2⟩ := s9 h1
        obtain ⟨hpp, -⟩ := rp_at hr2 hp
        have hl16 := hr.2.2.1.2
        obtain ⟨p1, p2, p3, p4, p5, p6, p7, p8⟩ := id hpp
        have i2b : i2 ≤ 4096 + 512 := by
          unfold pl_B at hi2
          split at hi2
          · omega
          · omega
        have ea : ((F2 146 (F2 121 58).toInt.toNat).toInt64 + (F2 121 59).toInt64).toInt = ((p.2.2.toNat + i2 : Nat) : Int) := by
          rw [show (F2 121 58).toInt.toNat = j2 by omega, l_add (i_2l p4) (i_2l s5) (by omega) (by omega)]
          omega
        obtain ⟨d1, d2, d3⟩ := q_i8 h3 (by omega)
        obtain ⟨-, -, -, v4, n4, sl4, SH4, FI4, FL4, FR4, hpu, h⟩ := h
        rw [show (l3 / (8 : Int32)).toInt.toNat = k / 8 by omega, d2, s2 126 (by first | decide | (simp; done) | (simp [ms_0]; done)), ho (k / 8) (by omega)] at hpu
        have hbb := htp (k / 8) (by omega)
        have hb01 := bt8_01 (k := k % 8) hbb.1 hbb.2 (Nat.mod_lt _ (by first | decide | (simp; done) | (simp [ms_0]; done)))
        obtain ⟨F3, L3, t1, t2, t3, t4⟩ := r_puts (b := bt8 (tp (k / 8)) (k % 8)) hE2 s4 (by omega) hpp ea (by omega) hpu
        first | (obtain ⟨zz1, zz2, zz3, zz4, zz5, zz6⟩ := st_c t1; (try subst zz1); (try subst zz2); (try subst zz3); (try subst zz4); (try subst zz5); (try subst zz6)) | cases t1
        rw [pl_r_c hp hi2, so, if_pos (by omega)]
        have n59 : (F3 121 59 + (1 : Int32)).toInt = ((i2 + 1 : Nat) : Int) := by
          rw [t2 121 (by first | decide | (simp; done) | (simp [ms_0]; done)), i_add s5 (by first | decide | (simp; done) | (simp [ms_0]; done) : ((1 : Int32)).toInt = 1) (by omega) (by omega)]
          omega
        have nk : (l3 + (1 : Int32)).toInt = ((k + 1 : Nat) : Int) := by
          rw [i_add h3 (by first | decide | (simp; done) | (simp [ms_0]; done) : ((1 : Int32)).toInt = 1) (by omega) (by omega)]
          omega
        have e121 : F3 121 = F2 121 := t2 121 (by first | decide | (simp; done) | (simp [ms_0]; done))
        have hr3 : rr (h_up F3 121 59 (F3 121 59 + (1 : Int32))) L3 Q := rr_fr hr2 (fun c hc => by rw [h_up_nc (by omega), t2 c (by omega)]) (t3 144 (by first | decide | (simp; done) | (simp [ms_0]; done))) (by rw [h_up_ne (by first | decide | (simp; done) | (simp [ms_0]; done)), e121]) (by rw [h_up_ne (by first | decide | (simp; done) | (simp [ms_0]; done)), e121])
        have step : ∀ (l2' : Int32) (s' : ms_E × Nat), so_st tp k (p, i2) s = s' → l2'.toInt = s'.2 → s'.2 ≤ k + 1 → rE F3 L3 SH s'.1 → rE_mem s'.1 → GX12_store_47 a1 g l2' (l3 + (1 : Int32)) n sl SH (h_up F3 121 59 (F3 121 59 + (1 : Int32))) L3 FR v st → v.toInt = (so tp N (pl_r (pl_B Q.1 N) Q.2.reverse j2 (i2 + 1)) (k + 1) (so_st tp k (p, i2) s)).2 ∧ ∃ F4 L4, st = (n, sl, SH, F4, L4, FR) ∧ (∀ c, c ≠ 121 → c ≠ 123 → F4 c = FI c) ∧ (∀ c, c ≠ 122 → L4 c = FL c) ∧ (∀ x, x ≠ 58 → x ≠ 59 → x ≠ 13 → F4 121 x = FI 121 x) ∧ F4 121 13 = 0 ∧ rE F4 L4 SH (so tp N (pl_r (pl_B Q.1 N) Q.2.reverse j2 (i2 + 1)) (k + 1) (so_st tp k (p, i2) s)).1 ∧ rE_mem (so tp N (pl_r (pl_B Q.1 N) Q.2.reverse j2 (i2 + 1)) (k + 1) (so_st tp k (p, i2) s)).1 := by
          intro l2' s' es hl2 hs2 hE3 hm3 h
          rw [es]
          have hE4 : rE (h_up F3 121 59 (F3 121 59 + (1 : Int32))) L3 SH s'.1 := rE_f2 hE3 (h_up_nc (by first | decide | (simp; done) | (simp [ms_0]; done))) (h_up_nc (by first | decide | (simp; done) | (simp [ms_0]; done))) (h_up_nc (by first | decide | (simp; done) | (simp [ms_0]; done))) (fun k _ _ => h_up_ne (by omega)) (fun _ _ _ => rfl) rfl
          obtain ⟨y1, F4, L4, y2, y3, y4, y5, y6, y7, y8⟩ := ih (k + 1) j2 (i2 + 1) s' l2' (l3 + (1 : Int32)) _ L3 nk hl2 hs2 (by omega) hr3 hE4 hm3 (fun x hx => by rw [h_up_nc (by first | decide | (simp; done) | (simp [ms_0]; done)), t2 126 (by first | decide | (simp; done) | (simp [ms_0]; done)), s2 126 (by first | decide | (simp; done) | (simp [ms_0]; done))]; exact ho x hx) (by rw [h_up_ne (by first | decide | (simp; done) | (simp [ms_0]; done)), e121]; exact s4) (by rw [h_up_eq]; exact n59) (by omega) (fun e => ⟨by have := (s10 e).2; have := (hns e).1; omega, by have := (s10 e).1; have := (hns e).2; omega⟩) h
          exact ⟨y1, F4, L4, y2, fun c c1 c2 => by rw [y3 c c1 c2, h_up_nc c1, t2 c c2, s2 c c1], fun c c1 => by rw [y4 c c1, t3 c c1], fun x x1 x2 x3 => by rw [y5 x x1 x2 x3, h_up_ne x2, e121, s3 x x1 x2], y6, y7, y8⟩
        rcases t4 with ⟨u1, u2, u3, u4⟩ | ⟨E2, u1, u2, u3⟩
        · have h := P_p h u2
          refine step l2 s ?_ h2 (by omega) (by rw [u3, u4]; exact hE2) hm h
          unfold so_st
          (try dsimp only)
          rw [u1]
        · have h := P_n h u2
          refine step (l2 + (1 : Int32)) (E2, s.2 + 1) ?_ ?_ (by show s.2 + 1 ≤ k + 1; omega) u3 (so_mem hm hb01 u1) h
          · unfold so_st
            (try dsimp only)
            rw [u1]
          · rw [i_add h2 (by first | decide | (simp; done) | (simp [ms_0]; done) : ((1 : Int32)).toInt = 1) (by omega) (by omega)]
            show (s.2 : Int) + 1 = ((s.2 + 1 : Nat) : Int)
            omega
    · rw [h3, hN] at h0
      rw [so_n (by omega)]
      refine ⟨by rw [e1]; exact h2, _, _, e, fun c c1 _ => h_up_nc c1, fun _ _ => rfl, fun x _ _ x3 => h_up_ne x3, h_up_eq, ?_, hm⟩
      exact rE_f2 hE (h_up_nc (by first | decide | (simp; done) | (simp [ms_0]; done))) (h_up_nc (by first | decide | (simp; done) | (simp [ms_0]; done))) (h_up_nc (by first | decide | (simp; done) | (simp [ms_0]; done))) (fun k _ _ => h_up_ne (by omega)) (fun _ _ _ => rfl) rfl
/-- what the reference's store leaves -/
theorem r_store {a1 : Int32} {Q : ms_Q} {N T : Nat} {E : ms_E} {tp : Nat → Int32} {FI : Nat → Nat → Int32} {FL : Nat → Nat → Int64} (hN : a1.toInt = N) (h1 : 1 ≤ N) (hN2 : N ≤ 512) (hT : (FI 121 13).toInt = T) (hT2 : T ≤ 1000) (hr : rr FI FL Q) (hE : rE FI FL SH E) (hm : rE_mem E) (ht : ∀ x, x < T → FI 126 x = tp x) (htp : ∀ x, x < T → 0 ≤ (tp x).toInt ∧ (tp x).toInt ≤ 255) (h : RX12_store a1 n sl SH FI FL FR v st) : (8 * T < N ∧ v = -1 ∧ st = (n, sl, SH, h_up FI 121 0 ((0 : Int32)), FL, FR)) ∨ (N ≤ 8 * T ∧ v.toInt = (so tp N (pl_Q N Q) 0 (E, 0)).2 ∧ ∃ F2 L2, st = (n, sl, SH, F2, L2, FR) ∧ (∀ c, c ≠ 121 → c ≠ 123 → F2 c = FI c) ∧ (∀ c, c ≠ 122 → L2 c = FL c) ∧ (∀ x, x ≠ 0 → x ≠ 58 → x ≠ 59 → x ≠ 13 → F2 121 x = FI 121 x) ∧ F2 121 13 = 0 ∧ rE F2 L2 SH (so tp N (pl_Q N Q) 0 (E, 0)).1 ∧ rE_mem (so tp N (pl_Q N Q) 0 (E, 0)).1) := by
  have h := P_n h (by rw [hN, show ((1 : Int32)).toInt = 1 by first | decide | (simp; done) | (simp [ms_0]; done)]; omega)
  have h := P_n h (by rw [hN, show ((512 : Int32)).toInt = 512 by first | decide | (simp; done) | (simp [ms_0]; done)]; omega)
  obtain ⟨-, h⟩ := h
  have e7 : ((a1 + (7 : Int32)) / (8 : Int32)).toInt = (((N + 7) / 8 : Nat) : Int) := by
    rw [i_div (i_add hN (by first | decide | (simp; done) | (simp [ms_0]; done) : ((7 : Int32)).toInt = 7) (by omega) (by omega)) (by first | decide | (simp; done) | (simp [ms_0]; done) : ((8 : Int32)).toInt = 8) (by omega) (by first | decide | (simp; done) | (simp [ms_0]; done))]
    omega
  rw [hT, e7] at h
  rcases h with ⟨h0, e1, e⟩ | ⟨h0, g, h⟩
  · exact Or.inl ⟨by omega, e1, e⟩
  · have F0 : ∀ c, c ≠ 121 → (h_up (h_up (h_up FI 121 0 ((0 : Int32))) 121 58 ((0 : Int32))) 121 59 ((0 : Int32))) c = FI c := fun c hc => by rw [h_up_nc hc, h_up_nc hc, h_up_nc hc]
    have F1 : ∀ k, k ≠ 0 → k ≠ 58 → k ≠ 59 → (h_up (h_up (h_up FI 121 0 ((0 : Int32))) 121 58 ((0 : Int32))) 121 59 ((0 : Int32))) 121 k = FI 121 k := fun k k0 k1 k2 => by rw [h_up_ne k2, h_up_ne k1, h_up_ne k0]
    have eq : pl_Q N Q = pl_r (pl_B Q.1 N) Q.2.reverse 0 0 := by
      unfold pl_Q
      rw [← pl_f_r]
      rfl
    rw [eq]
    obtain ⟨y1, F4, L4, y2, y3, y4, y5, y6, y7, y8⟩ := r_so47 (tp := tp) hN hN2 (fun x hx => htp x (by omega)) g 0 0 0 (E, 0) 0 0 _ FL (by first | decide | (simp; done) | (simp [ms_0]; done)) (by first | decide | (simp; done) | (simp [ms_0]; done)) (by first | decide | (simp; done) | (simp [ms_0]; done)) (by omega) (rr_fr hr (fun c hc => F0 c (by omega)) rfl (F1 46 (by first | decide | (simp; done) | (simp [ms_0]; done)) (by first | decide | (simp; done) | (simp [ms_0]; done)) (by first | decide | (simp; done) | (simp [ms_0]; done))) (F1 47 (by first | decide | (simp; done) | (simp [ms_0]; done)) (by first | decide | (simp; done) | (simp [ms_0]; done)) (by first | decide | (simp; done) | (simp [ms_0]; done)))) (rE_f2 hE (F0 123 (by first | decide | (simp; done) | (simp [ms_0]; done))) (F0 124 (by first | decide | (simp; done) | (simp [ms_0]; done))) (F0 125 (by first | decide | (simp; done) | (simp [ms_0]; done))) (fun k _ _ => F1 k (by omega) (by omega) (by omega)) (fun _ _ _ => rfl) rfl) hm (fun x hx => by rw [F0 126 (by first | decide | (simp; done) | (simp [ms_0]; done))]; exact ht x (by omega)) (by rw [h_up_x (by first | decide | (simp; done) | (simp [ms_0]; done)), h_up_eq]; (first | decide | (simp; done) | (simp [ms_0]; done))) (by rw [h_up_eq]; (first | decide | (simp; done) | (simp [ms_0]; done))) (by first | decide | (simp; done) | (simp [ms_0]; done)) (fun _ => ⟨rfl, rfl⟩) h
    exact Or.inr ⟨by omega, y1, F4, L4, y2, fun c c1 c2 => by rw [y3 c c1 c2, F0 c c1], y4, fun x x0 x1 x2 x3 => by rw [y5 x x1 x2 x3, F1 x x0 x1 x2], y6, y7, y8⟩
/-- zeros ahead of a fetch -/
theorem r_fe32 {a1 : Int32} {M : Nat} : ∀ (g k : Nat) (l2 : Int32) (FI : Nat → Nat → Int32) (FL : Nat → Nat → Int64), l2.toInt = k → k ≤ M → M ≤ 64 → (FI 121 61).toInt = M → (∀ x, x < k → FI 148 x = 0) → GX12_fetch_32 a1 g l2 n sl SH FI FL FR v st → ∃ F2, RX12_fetch_67 a1 ((0 : Int32)) ((0 : Int32)) n sl SH (h_up (h_up F2 121 58 ((0 : Int32))) 121 59 ((0 : Int32))) FL FR v st ∧ (∀ c, c ≠ 148 → F2 c = FI c) ∧ (∀ x, x < M → F2 148 x = 0) := by
  intro g
  induction g with
  | zero => intro k l2 FI FL _ _ _ _ _ h; exact h.elim
  | succ g ih =>
    intro k l2 FI FL h2 hk hM h61 hz h
    rcases h with ⟨h0, -, h⟩ | ⟨h0, h⟩
    · rw [h2, h61] at h0
      rw [show l2.toInt.toNat = k by omega] at h
      obtain ⟨F2, y1, y2, y3⟩ := ih (k + 1) (l2 + (1 : Int32)) _ FL (by rw [i_add h2 (by first | decide | (simp; done) | (simp [ms_0]; done) : ((1 : Int32)).toInt = 1) (by omega) (by omega)]; omega) (by omega) hM (by rw [h_up_nc (by first | decide | (simp; done) | (simp [ms_0]; done))]; exact h61) (fun x hx => by
        by_cases e : x = k
        · subst e; exact h_up_eq
        · rw [h_up_ne e]; exact hz x (by omega)) h
      exact ⟨F2, y1, fun c hc => by rw [y2 c hc, h_up_nc hc], y3⟩
    · rw [h2, h61] at h0
      exact ⟨FI, h, fun _ _ => rfl, fun x hx => hz x (by omega)⟩
end RSP
end
section
/-! THE CLASS'S fetch, store: bits. -/
theorem fe_cg {E : ms_E} {N M : Nat} (hM : N ≤ 8 * M) : ∀ (L : List (ms_P × Nat)) (k : Nat) (s s2 : (Nat → Int32) × Nat), (∀ x, x < M → s.1 x = s2.1 x) → s.2 = s2.2 → (∀ x, x < M → (fe E N L k s).1 x = (fe E N L k s2).1 x) ∧ (fe E N L k s).2 = (fe E N L k s2).2
  | [], _, _, _, h1, h2 => ⟨h1, h2⟩
  | x :: r, k, s, s2, h1, h2 => by
    rw [fe, fe]
    by_cases h : k < N
    · rw [if_pos h, if_pos h]
      refine fe_cg hM r (k + 1) _ _ (fun y hy => ?_) ?_
      · unfold fe_st
        cases ms_bq E x.1.1 (x.1.2.2.toNat + x.2) with
        | none => exact h1 y hy
        | some b =>
          show va_up s.1 (k / 8) (s.1 (k / 8) ||| (b <<< Int32.ofNat (k % 8))) y = va_up s2.1 (k / 8) (s2.1 (k / 8) ||| (b <<< Int32.ofNat (k % 8))) y
          by_cases e : y = k / 8
          · subst e
            rw [va_s, va_s, h1 _ hy]
          · rw [va_o e, va_o e]
            exact h1 y hy
      · unfold fe_st
        cases ms_bq E x.1.1 (x.1.2.2.toNat + x.2) with
        | none => exact h2
        | some b => show s.2 + 1 = s2.2 + 1; rw [h2]
    · rw [if_neg h, if_neg h]
      exact ⟨h1, h2⟩
section RFW
variable {n sl : Nat} {SH : Nat → Nat × Nat} {FR : Nat → Nat → Option Nat} {st : hS} {v : Int32}
theorem r_fetch {a1 : Int32} {Q : ms_Q} {N : Nat} {E : ms_E} {FI : Nat → Nat → Int32} {FL : Nat → Nat → Int64} (hN : a1.toInt = N) (h1 : 1 ≤ N) (hN2 : N ≤ 512) (hr : rr FI FL Q) (hE : rE FI FL SH E) (hm : rE_mem E) (h : RX12_fetch a1 n sl SH FI FL FR v st) : v.toInt = (fe E N (pl_Q N Q) 0 (fun _ => 0, 0)).2 ∧ ∃ F2, st = (n, sl, SH, F2, FL, FR) ∧ (∀ c, c ≠ 121 → c ≠ 148 → F2 c = FI c) ∧ (∀ x, x ≠ 0 → x ≠ 58 → x ≠ 59 → x ≠ 61 → F2 121 x = FI 121 x) ∧ (F2 121 61).toInt = (((N + 7) / 8 : Nat) : Int) ∧ (∀ x, x < (N + 7) / 8 → F2 148 x = (fe E N (pl_Q N Q) 0 (fun _ => 0, 0)).1 x) := by
  have h := P_n h (by rw [hN, show ((1 : Int32)).toInt = 1 by first | decide | (simp; done) | (simp [ms_0]; done)]; omega)
  have h := P_n h (by rw [hN, show ((512 : Int32)).toInt = 512 by first | decide | (simp; done) | (simp [ms_0]; done)]; omega)
  obtain ⟨-, g, h⟩ := h
  have e7 : ((a1 + (7 : Int32)) / (8 : Int32)).toInt = (((N + 7) / 8 : Nat) : Int) := by
    rw [i_div (i_add hN (by first | decide | (simp; done) | (simp [ms_0]; done) : ((7 : Int32)).toInt = 7) (by omega) (by omega)) (by first | decide | (simp; done) | (simp [ms_0]; done) : ((8 : Int32)).toInt = 8) (by omega) (by first | decide | (simp; done) | (simp [ms_0]; done))]
    omega
  obtain ⟨F2, ⟨g2, h⟩, z1, z2⟩ := r_fe32 (M := (N + 7) / 8) g 0 0 _ FL (by first | decide | (simp; done) | (simp [ms_0]; done)) (by omega) (by omega) (by rw [h_up_eq]; exact e7) (fun x hx => by omega) h
  have F0 : ∀ c, c ≠ 121 → c ≠ 148 → (h_up (h_up F2 121 58 ((0 : Int32))) 121 59 ((0 : Int32))) c = FI c := fun c c1 c2 => by rw [h_up_nc c1, h_up_nc c1, z1 c c2, h_up_nc c1, h_up_nc c1]
  have F1 : ∀ k, k ≠ 0 → k ≠ 58 → k ≠ 59 → k ≠ 61 → (h_up (h_up F2 121 58 ((0 : Int32))) 121 59 ((0 : Int32))) 121 k = FI 121 k := fun k k0 k1 k2 k3 => by rw [h_up_ne k2, h_up_ne k1, z1 121 (by first | decide | (simp; done) | (simp [ms_0]; done)), h_up_ne k3, h_up_ne k0]
  have eq : pl_Q N Q = pl_r (pl_B Q.1 N) Q.2.reverse 0 0 := by
    unfold pl_Q
    rw [← pl_f_r]
    rfl
  rw [eq]
  obtain ⟨y1, F4, y2, y3, y4, y5⟩ := r_fe67 hN hN2 hm g2 0 0 0 (F2 148, 0) 0 0 _ (by first | decide | (simp; done) | (simp [ms_0]; done)) (by first | decide | (simp; done) | (simp [ms_0]; done)) (by first | decide | (simp; done) | (simp [ms_0]; done)) (by omega) (rr_fr hr (fun c hc => F0 c (by omega) (by omega)) rfl (F1 46 (by first | decide | (simp; done) | (simp [ms_0]; done)) (by first | decide | (simp; done) | (simp [ms_0]; done)) (by first | decide | (simp; done) | (simp [ms_0]; done)) (by first | decide | (simp; done) | (simp [ms_0]; done))) (F1 47 (by first | decide | (simp; done) | (simp [ms_0]; done)) (by first | decide | (simp; done) | (simp [ms_0]; done)) (by first | decide | (simp; done) | (simp [ms_0]; done)) (by first | decide | (simp; done) | (simp [ms_0]; done)))) (rE_f2 hE (F0 123 (by first | decide | (simp; done) | (simp [ms_0]; done)) (by first | decide | (simp; done) | (simp [ms_0]; done))) (F0 124 (by first | decide | (simp; done) | (simp [ms_0]; done)) (by first | decide | (simp; done) | (simp [ms_0]; done))) (F0 125 (by first | decide | (simp; done) | (simp [ms_0]; done)) (by first | decide | (simp; done) | (simp [ms_0]; done))) (fun k _ _ => F1 k (by omega) (by omega) (by omega) (by omega)) (fun _ _ _ => rfl) rfl) (fun x _ => by rw [h_up_nc (by first | decide | (simp; done) | (simp [ms_0]; done)), h_up_nc (by first | decide | (simp; done) | (simp [ms_0]; done))]) (by rw [h_up_x (by first | decide | (simp; done) | (simp [ms_0]; done)), h_up_eq]; (first | decide | (simp; done) | (simp [ms_0]; done))) (by rw [h_up_eq]; (first | decide | (simp; done) | (simp [ms_0]; done))) (by first | decide | (simp; done) | (simp [ms_0]; done)) (fun _ => ⟨rfl, rfl⟩) h
  obtain ⟨w1, w2⟩ := fe_cg (E := E) (N := N) (M := (N + 7) / 8) (by omega) (pl_r (pl_B Q.1 N) Q.2.reverse 0 0) 0 (F2 148, 0) (fun _ => 0, 0) (fun x hx => z2 x hx) rfl
  refine ⟨by rw [y1, w2], F4, y2, fun c c1 c2 => by rw [y3 c c1 c2, F0 c c1 c2], fun x x0 x1 x2 x3 => by rw [y4 x x1 x2, F1 x x0 x1 x2 x3], ?_, fun x hx => by rw [y5 x (by omega), w1 x hx]⟩
  rw [y4 61 (by first | decide | (simp; done) | (simp [ms_0]; done)) (by first | decide | (simp; done) | (simp [ms_0]; done)), h_up_ne (by first | decide | (simp; done) | (simp [ms_0]; done)), h_up_ne (by first | decide | (simp; done) | (simp [ms_0]; done)), z1 121 (by first | decide | (simp; done) | (simp [ms_0]; done)), h_up_eq]
  exact e7
end RFW
section CBI
variable {n sl : Nat} {SH : Nat → Nat × Nat} {FI F2 : Nat → Nat → Int32} {FL L2 : Nat → Nat → Int64} {FR : Nat → Nat → Option Nat} {st : hS} {E : ms_E} {v : Int32}
theorem c_hasB {x : Int64} (hS : h_S n SH) : (fX1_hasBytes x ((1 : Int32)) SH FI FL FR).toInt = 0 ↔ (x.toInt < 0 ∨ 4095 < x.toInt) := by
  have e : (((Int32.ofNat (SH 25).2) - ((1 : Int32))).toInt64).toInt = 4095 := by
    rw [hS.2 25 (by first | decide | (simp; done) | (simp [ms_0]; done))]
    decide +kernel
  unfold fX1_hasBytes
  rw [e, show ((0 : Int64)).toInt = 0 by first | decide | (simp; done) | (simp [ms_0]; done)]
  by_cases g1 : x.toInt < 0
  · rw [if_pos g1]
    exact ⟨fun _ => Or.inl g1, fun _ => by first | decide | (simp; done) | (simp [ms_0]; done)⟩
  rw [if_neg g1]
  by_cases g2 : 4095 < x.toInt
  · rw [if_pos g2]
    exact ⟨fun _ => Or.inr g2, fun _ => by first | decide | (simp; done) | (simp [ms_0]; done)⟩
  · rw [if_neg g2]
    exact ⟨fun e => absurd e (by first | decide | (simp; done) | (simp [ms_0]; done)), fun e => absurd e (fun e => e.elim g1 g2)⟩
/-- a block's byte -/
theorem c_block {q : Nat} {H : ms_H} {x : Int64} {A : Int} (hc : ct FI FL FR SH q H) (hx : x.toInt = A) (hA : A ≤ 2000000000) (h : RX5_blockByte q x n sl SH FI FL FR v st) : st = (n, sl, SH, FI, FL, FR) ∧ v = bt_v (if H.1 = 4 ∧ 0 ≤ A then H.2.2[A.toNat]? else none) := by
  obtain ⟨c1, c2, c3, c4⟩ := hc
  unfold RX5_blockByte at h
  rw [c1, show ((4 : Int32)).toInt = 4 by first | decide | (simp; done) | (simp [ms_0]; done)] at h
  rcases h with ⟨k4, h⟩ | ⟨k4, e1, e⟩
  · obtain ⟨r, D, r1, r2, r3⟩ := c4 k4
    have hl : H.2.1.toInt = H.2.2.length := by
      rcases c3 with q | q | q | q | q
      · exfalso; have := q.1; omega
      · exfalso; have := q.1; omega
      · exfalso; have := q.1; omega
      · exfalso; have := q.1; omega
      · exact q.2
    have h := P_n h (by rw [r1]; intro e; cases e)
    rw [hx, show ((0 : Int64)).toInt = 0 by first | decide | (simp; done) | (simp [ms_0]; done)] at h
    rcases h with ⟨g1, e1, e⟩ | ⟨g1, h⟩
    · exact ⟨e, by rw [e1, if_neg (by omega)]; rfl⟩
    rw [c2, hl] at h
    rcases h with ⟨g2, h⟩ | ⟨g2, e1, e⟩
    · obtain ⟨v4, n4, sl4, SH4, FI4, FL4, FR4, hb, e1, e⟩ := h
      have hz := r3.2.1
      have hz2 := r3.2.2.1
      have es : ((FI q 5).toInt64 + x).toInt = ((D + A.toNat : Nat) : Int) := by
        rw [l_add (i_2l r2) hx (by omega) (by omega)]
        omega
      rw [r1] at hb
      have hb := P_n hb (by rw [es, show ((0 : Int64)).toInt = 0 by first | decide | (simp; done) | (simp [ms_0]; done)]; omega)
      obtain ⟨c5, e5, hb⟩ := hb
      cases e5
      have hb := P_p hb (by rw [es, i_2l (i_lit (by omega))]; omega)
      obtain ⟨c6, e6, -, f1, f2⟩ := hb
      cases e6
      cases f2
      obtain ⟨b, hb0⟩ := lx_i (L := H.2.2) (i := A.toNat) (by omega)
      rw [l_2i es (by omega) (by omega), show ((D + A.toNat : Nat) : Int).toNat = D + A.toNat by omega, (r3.2.2.2 _ _ hb0).1] at f1
      refine ⟨e, ?_⟩
      rw [if_pos ⟨k4, by omega⟩, hb0, e1, f1]
      rfl
    · refine ⟨e, ?_⟩
      rw [e1, if_pos ⟨k4, by omega⟩, List.getElem?_eq_none (by omega)]
      rfl
  · exact ⟨e, by rw [e1, if_neg (fun e => k4 e.1)]; rfl⟩
theorem ct_by {q : Nat} {H : ms_H} (hc : ct FI FL FR SH q H) (k4 : H.1 = 4) : ∀ (k : Nat) (x : Int32), H.2.2[k]? = some x → 0 ≤ x.toInt ∧ x.toInt ≤ 255 := by
  obtain ⟨r, D, r1, r2, r3⟩ := hc.2.2.2 k4
  exact fun k x hk => (r3.2.2.2 k x hk).2
theorem c_bitOf {q i : Nat} {H : ms_H} {a2 : Int32} (hS : h_S n SH) (hE : cE FI FL FR SH E) (hc : ct FI FL FR SH q H) (h2 : a2.toInt = i) (hi : i ≤ 10000) (h : RX1_bitOf (some q) a2 n sl SH FI FL FR v st) : st = (n, sl, SH, FI, FL, FR) ∧ v = bt_v (ms_bq E H i) := by
  obtain ⟨c1, c2, c3, c4⟩ := id hc
  obtain ⟨d1, d2, d3⟩ := q_i8 h2 (by omega)
  have d4 : (a2 / (8 : Int32)).toInt64 = Int64.ofNat (i / 8) := l_ofn (i_2l d1) (by omega)
  have d5 : a2.toInt64 = Int64.ofNat i := l_ofn (i_2l h2) (by omega)
  have h8 : i % 8 < 8 := Nat.mod_lt _ (by first | decide | (simp; done) | (simp [ms_0]; done))
  obtain ⟨q1, e1, h⟩ := h
  cases e1
  rw [c1] at h
  unfold ms_bq
  rcases h with ⟨k1, h⟩ | ⟨k1, h⟩
  · rw [if_pos k1]
    obtain ⟨q3, e3, -, h⟩ := h
    cases e3
    rw [c2, d4] at h
    rcases h with ⟨g, e1, e⟩ | ⟨g, h⟩
    · rw [c_hasB hS] at g
      rw [if_pos g]
      exact ⟨e, e1⟩
    · rw [c_hasB hS] at g
      rw [if_neg g]
      obtain ⟨-, -, e1, e⟩ := h
      have hm := hE.2.1 (H.2.1 + Int64.ofNat (i / 8)).toInt.toNat (by omega)
      rw [l_2i (A := (H.2.1 + Int64.ofNat (i / 8)).toInt) rfl (by omega) (by omega), d3, hm.1, bt8_u hm.2.1 hm.2.2 h8] at e1
      exact ⟨e, e1⟩
  rw [if_neg k1]
  rcases h with ⟨k2, h⟩ | ⟨k2, h⟩
  · rw [if_pos k2]
    rw [h2, show ((64 : Int32)).toInt = 64 by first | decide | (simp; done) | (simp [ms_0]; done)] at h
    rcases h with ⟨g, h⟩ | ⟨g, e1, e⟩
    · have hr : 0 ≤ H.2.1.toInt ∧ H.2.1.toInt ≤ 31 := by
        rcases c3 with q | q | q | q | q
        · exfalso; have := q.1; omega
        · exfalso; have := q.1; omega
        · exact q.2.2
        · exfalso; have := q.1; omega
        · exfalso; have := q.1; omega
      obtain ⟨q8, e8, e1, e⟩ := h
      cases e8
      rw [c2, c_reg hS hE hr.1 hr.2, d5, bt64_u (by omega)] at e1
      rw [if_neg (by omega)]
      exact ⟨e, e1⟩
    · rw [if_pos (by omega)]
      exact ⟨e, e1⟩
  rw [if_neg k2]
  rcases h with ⟨k3, h⟩ | ⟨k3, h⟩
  · rw [if_pos k3]
    rw [h2, show ((64 : Int32)).toInt = 64 by first | decide | (simp; done) | (simp [ms_0]; done)] at h
    rcases h with ⟨g, h⟩ | ⟨g, e1, e⟩
    · obtain ⟨q8, e8, e1, e⟩ := h
      cases e8
      rw [c2, d5, bt64_u (by omega)] at e1
      rw [if_neg (by omega)]
      exact ⟨e, e1⟩
    · rw [if_pos (by omega)]
      exact ⟨e, e1⟩
  rw [if_neg k3]
  rcases h with ⟨k4, h⟩ | ⟨k4, e1, e⟩
  · rw [if_pos k4]
    obtain ⟨-, q14, e14, v14, n14, sl14, SH14, FI14, FL14, FR14, hb, h⟩ := h
    cases e14
    obtain ⟨b1, b2⟩ := c_block hc (i_2l d1) (by omega) hb
    cases b1
    rw [if_pos ⟨k4, by omega⟩, show ((i / 8 : Nat) : Int).toNat = i / 8 by omega] at b2
    cases hx : H.2.2[i / 8]? with
    | none =>
      rw [hx] at b2
      obtain ⟨e1, e⟩ := P_p h (by rw [b2]; rfl)
      exact ⟨e, e1⟩
    | some b =>
      rw [hx] at b2
      have b2 : v14 = b := b2
      have hbb := ct_by hc k4 _ _ hx
      obtain ⟨-, e1, e⟩ := P_n h (by rw [b2, show ((-1 : Int32)).toInt = -1 by first | decide | (simp; done) | (simp [ms_0]; done)]; omega)
      rw [b2, d3, bt8_u hbb.1 hbb.2 h8] at e1
      exact ⟨e, e1⟩
  · rw [if_neg k4]
    exact ⟨e, e1⟩
end CBI
end
section
/-! THE CLASS'S fetch. -/
section CFE
variable {n sl : Nat} {SH : Nat → Nat × Nat} {FL : Nat → Nat → Int64} {FR : Nat → Nat → Option Nat} {st : hS} {E : ms_E} {v : Int32} {Q : ms_Q}
theorem cE_20 {FI F2 : Nat → Nat → Int32} (hE : cE FI FL FR SH E) (h : ∀ c, c ≠ 20 → F2 c = FI c) : cE F2 FL FR SH E := by
  obtain ⟨h1, h2, h3, h4, h5, h6, h7, h8⟩ := hE
  refine ⟨h1, by rw [h 25 (by first | decide | (simp; done) | (simp [ms_0]; done))]; exact h2, fun k hk => ?_, by rw [h 23 (by first | decide | (simp; done) | (simp [ms_0]; done))]; exact h4, by rw [h 23 (by first | decide | (simp; done) | (simp [ms_0]; done))]; exact h5, h6, by rw [h 23 (by first | decide | (simp; done) | (simp [ms_0]; done))]; exact h7, by rw [h 23 (by first | decide | (simp; done) | (simp [ms_0]; done))]; exact h8⟩
  obtain ⟨r, r1, r2, r3, r4⟩ := h3 k hk
  exact ⟨r, r1, r2, r3, bk_fr r4 (h r (by have := r4.1.2; omega))⟩
theorem cE_mem {FI : Nat → Nat → Int32} (hE : cE FI FL FR SH E) : rE_mem E := fun a ha => (hE.2.1 a ha).2
theorem cq_20 {FI F2 : Nat → Nat → Int32} {q : Nat} {p : ms_P} (hc : cq FI FL FR SH q p) (hq : q ≠ 20) (h : ∀ c, c ≠ 20 → F2 c = FI c) : cq F2 FL FR SH q p := cq_fr hc (fun r hr => h r (by have := hr.2; omega)) (h q hq) rfl rfl
theorem c_fe88 {Kn : Int32 → Int32 → Int32 → Nat → Nat → (Nat → Nat × Nat) → (Nat → Nat → Int32) → (Nat → Nat → Int64) → (Nat → Nat → Option Nat) → Int32 → hS → Prop} {a1 l4 l6 : Int32} {N B q : Nat} {p : ms_P} (hS : h_S n SH) (hN : a1.toInt = N) (hN2 : N ≤ 512) (h6 : l6.toInt = B) (hB : B ≤ 4096) (hq : 3 ≤ q ∧ q ≤ 18) : ∀ (g i k : Nat) (s : (Nat → Int32) × Nat) (l2 l3 l7 : Int32) (FI : Nat → Nat → Int32), l7.toInt = i → i ≤ B → l3.toInt = k → k ≤ N → l2.toInt = s.2 → s.2 ≤ k → cE FI FL FR SH E → cq FI FL FR SH q p → (∀ x, x < 64 → FI 20 x = s.1 x) → GX11_fetch_88 Kn a1 g l2 l3 l4 (some q) l6 l7 n sl SH FI FL FR v st → ∃ k2 s2 l2' l3' F2, k2 ≤ N ∧ (∀ rest, fe E N (pl_1 p (B - i) i ++ rest) k s = fe E N rest k2 s2) ∧ l3'.toInt = ((k2 : Nat) : Int) ∧ l2'.toInt = ((s2.2 : Nat) : Int) ∧ s2.2 ≤ k2 ∧ (∀ c, c ≠ 20 → F2 c = FI c) ∧ (∀ x, x < 64 → F2 20 x = s2.1 x) ∧ Kn l2' l3' (l4 + (1 : Int32)) n sl SH F2 FL FR v st := by
  intro g
  induction g with
  | zero => intro i k s l2 l3 l7 FI _ _ _ _ _ _ _ _ _ h; exact h.elim
  | succ g ih =>
    intro i k s l2 l3 l7 FI h7 hi h3 hk h2 hsk hE hc ho h
    rcases h with ⟨b1, h⟩ | ⟨b1, h⟩
    · rw [h7, h6] at b1
      rw [show (l3.toInt < a1.toInt) = ((k : Int) < (N : Int)) by rw [h3, hN]] at h
      rcases h with ⟨b2, h⟩ | ⟨b2, h⟩
      · obtain ⟨c3, e3, v3, n3, sl3, SH3, FI3, FL3, FR3, hb, h⟩ := h
        cases e3
        obtain ⟨c1, c2, c3, c4, c5, c6, c7⟩ := id hc
        have ei : (FI q 3 + l7).toInt = ((p.2.2.toNat + i : Nat) : Int) := by
          rw [i_add c3 h7 (by omega) (by omega)]
          omega
        obtain ⟨y1, y2⟩ := c_bitOf hS hE c1 ei (by omega) hb
        cases y1
        have n7 : (l7 + (1 : Int32)).toInt = ((i + 1 : Nat) : Int) := by
          rw [i_add h7 (by first | decide | (simp; done) | (simp [ms_0]; done) : ((1 : Int32)).toInt = 1) (by omega) (by omega)]
          omega
        have n3 : (l3 + (1 : Int32)).toInt = ((k + 1 : Nat) : Int) := by
          rw [i_add h3 (by first | decide | (simp; done) | (simp [ms_0]; done) : ((1 : Int32)).toInt = 1) (by omega) (by omega)]
          omega
        have el : ∀ rest, fe E N (pl_1 p (B - i) i ++ rest) k s = fe E N (pl_1 p (B - (i + 1)) (i + 1) ++ rest) (k + 1) (fe_st E k (p, i) s) := fun rest => by
          rw [show B - i = (B - (i + 1)) + 1 by omega, pl_1]
          show fe E N ((p, i) :: (pl_1 p (B - (i + 1)) (i + 1) ++ rest)) k s = _
          rw [fe, if_pos (by omega)]
        have step : ∀ (F3 : Nat → Nat → Int32) (l2' : Int32) (s' : (Nat → Int32) × Nat), fe_st E k (p, i) s = s' → l2'.toInt = s'.2 → s'.2 ≤ k + 1 → (∀ c, c ≠ 20 → F3 c = FI c) → (∀ x, x < 64 → F3 20 x = s'.1 x) → GX11_fetch_88 Kn a1 g l2' (l3 + (1 : Int32)) l4 (some q) l6 (l7 + (1 : Int32)) n sl SH F3 FL FR v st → ∃ k2 s2 l2' l3' F2, k2 ≤ N ∧ (∀ rest, fe E N (pl_1 p (B - i) i ++ rest) k s = fe E N rest k2 s2) ∧ l3'.toInt = ((k2 : Nat) : Int) ∧ l2'.toInt = ((s2.2 : Nat) : Int) ∧ s2.2 ≤ k2 ∧ (∀ c, c ≠ 20 → F2 c = FI c) ∧ (∀ x, x < 64 → F2 20 x = s2.1 x) ∧ Kn l2' l3' (l4 + (1 : Int32)) n sl SH F2 FL FR v st := by
          intro F3 l2' s' es hl2 hs2 f1 f2 h
          obtain ⟨k2, s2, l2'', l3'', F2, z1, z2, z3, z4, z5, z6, z7, z8⟩ := ih (i + 1) (k + 1) s' l2' (l3 + (1 : Int32)) (l7 + (1 : Int32)) F3 n7 (by omega) n3 (by omega) hl2 hs2 (cE_20 hE f1) (cq_20 hc (by omega) f1) f2 h
          exact ⟨k2, s2, l2'', l3'', F2, z1, fun rest => by rw [el rest, es]; exact z2 rest, z3, z4, z5, fun c hc => by rw [z6 c hc, f1 c hc], z7, z8⟩
        cases hbt : ms_bq E p.1 (p.2.2.toNat + i) with
        | none =>
          rw [hbt] at y2
          have h := P_p h (by rw [y2]; rfl)
          refine step FI l2 s ?_ h2 (by omega) (fun _ _ => rfl) ho h
          unfold fe_st
          (try dsimp only)
          rw [hbt]
        | some b =>
          rw [hbt] at y2
          have y2 : v3 = b := y2
          have h01 : b = 0 ∨ b = 1 := by
            refine ms_bq_01 (cE_mem hE) (fun kk x hx => ?_) hbt
            by_cases k4 : p.1.1 = 4
            · exact ct_by c1 k4 kk x hx
            · exfalso
              have hnil : p.1.2.2 = [] := by
                rcases c1.2.2.1 with q | q | q | q | q
                · rw [q.2]; rfl
                · exact q.2
                · exact q.2.1
                · exact q.2
                · exact absurd q.1 k4
              rw [hnil] at hx
              simp at hx
          have h := P_n h (by
            rw [y2]
            rcases h01 with e | e
            · rw [e]; (first | decide | (simp; done) | (simp [ms_0]; done))
            · rw [e]; (first | decide | (simp; done) | (simp [ms_0]; done)))
          obtain ⟨-, -, -, -, h⟩ := h
          obtain ⟨d1, d2, d3⟩ := q_i8 h3 (by omega)
          rw [show (l3 / (8 : Int32)).toInt.toNat = k / 8 by omega, d2, y2] at h
          refine step _ (l2 + (1 : Int32)) (va_up s.1 (k / 8) (s.1 (k / 8) ||| (b <<< Int32.ofNat (k % 8))), s.2 + 1) ?_ ?_ (by show s.2 + 1 ≤ k + 1; omega) (fun c hc => h_up_nc hc) (fun x hx => ?_) h
          · unfold fe_st
            (try dsimp only)
            rw [hbt]
          · rw [i_add h2 (by first | decide | (simp; done) | (simp [ms_0]; done) : ((1 : Int32)).toInt = 1) (by omega) (by omega)]
            show (s.2 : Int) + 1 = ((s.2 + 1 : Nat) : Int)
            omega
          · show h_up FI 20 (k / 8) (FI 20 (k / 8) ||| b <<< Int32.ofNat (k % 8)) 20 x = va_up s.1 (k / 8) (s.1 (k / 8) ||| (b <<< Int32.ofNat (k % 8))) x
            by_cases ex : x = k / 8
            · subst ex
              rw [h_up_eq, va_s, ho _ hx]
            · rw [h_up_ne ex, va_o ex]
              exact ho x hx
      · exact ⟨k, s, l2, l3, FI, hk, fun rest => by rw [fe_n (by omega), fe_n (by omega)], h3, h2, hsk, fun _ _ => rfl, ho, h⟩
    · rw [h7, h6] at b1
      refine ⟨k, s, l2, l3, FI, hk, fun rest => ?_, h3, h2, hsk, fun _ _ => rfl, ho, h⟩
      rw [show B - i = 0 by omega]
      rfl
theorem cq_at {FI : Nat → Nat → Int32} {j : Nat} {p : ms_P} (h : crx FI FL FR SH 1 3 Q) (hp : Q.2.reverse[j]? = some p) : cq FI FL FR SH (3 + j) p ∧ j < Q.2.length := by
  have hl : j < Q.2.length := by
    have := (List.getElem?_eq_some_iff.mp hp).1
    rw [List.length_reverse] at this
    exact this
  rw [List.getElem?_reverse hl] at hp
  have := lv_get h.2.2.2.2 hp
  rw [show Q.2.length - 1 - (Q.2.length - 1 - j) = j by omega] at this
  exact ⟨this, hl⟩
theorem crx_20 {FI F2 : Nat → Nat → Int32} (h : crx FI FL FR SH 1 3 Q) (f : ∀ c, c ≠ 20 → F2 c = FI c) : crx F2 FL FR SH 1 3 Q := crx_fr h (fun r hr => f r (by have := hr.2; omega)) (f 1 (by first | decide | (simp; done) | (simp [ms_0]; done))) (fun i hi => ⟨f (3 + i) (by omega), rfl, rfl⟩)
theorem c_fe40 {a1 : Int32} {N : Nat} (hS : h_S n SH) (t1 : tx FR 1 2 3) (hN : a1.toInt = N) (hN2 : N ≤ 512) : ∀ (g j k : Nat) (s : (Nat → Int32) × Nat) (l2 l3 l4 : Int32) (FI : Nat → Nat → Int32), l4.toInt = j → j ≤ Q.2.length → l3.toInt = k → k ≤ N → l2.toInt = s.2 → s.2 ≤ k → cE FI FL FR SH E → crx FI FL FR SH 1 3 Q → (∀ x, x < 64 → FI 20 x = s.1 x) → GX11_fetch_40 a1 g l2 l3 l4 n sl SH FI FL FR v st → v.toInt = (fe E N (pl_f (pl_B Q.1 N) (Q.2.reverse.drop j)) k s).2 ∧ ∃ F2, st = (n, sl, SH, F2, FL, FR) ∧ (∀ c, c ≠ 20 → F2 c = FI c) ∧ (∀ x, x < 64 → F2 20 x = (fe E N (pl_f (pl_B Q.1 N) (Q.2.reverse.drop j)) k s).1 x) := by
  intro g
  induction g with
  | zero => intro j k s l2 l3 l4 FI _ _ _ _ _ _ _ _ _ h; exact h.elim
  | succ g ih =>
    intro j k s l2 l3 l4 FI h4 hj h3 hk h2 hsk hE hQ ho h
    have hn := crx_n hQ
    have h16 := hQ.2.2.1
    rcases h with ⟨b1, -, h⟩ | ⟨b1, e1, e⟩
    · rw [h4, hn] at b1
      obtain ⟨p, hp⟩ := lx_i (L := Q.2.reverse) (i := j) (by rw [List.length_reverse]; omega)
      obtain ⟨hc, hjl⟩ := cq_at hQ hp
      have er : FR 2 l4.toInt.toNat = some (3 + j) := by
        rw [show l4.toInt.toNat = j by omega]
        exact t1.2 j (by omega)
      have el : pl_f (pl_B Q.1 N) (Q.2.reverse.drop j) = pl_1 p (pl_B Q.1 N p - 0) 0 ++ pl_f (pl_B Q.1 N) (Q.2.reverse.drop (j + 1)) := by
        rw [pl_f_r]
        unfold pl_r
        rw [hp]
      have nj : (l4 + (1 : Int32)).toInt = ((j + 1 : Nat) : Int) := by
        rw [i_add h4 (by first | decide | (simp; done) | (simp [ms_0]; done) : ((1 : Int32)).toInt = 1) (by omega) (by omega)]
        omega
      have go : ∀ l6 : Int32, l6.toInt = ((pl_B Q.1 N p : Nat) : Int) → pl_B Q.1 N p ≤ 4096 → RX11_fetch_88 (GX11_fetch_40 a1 g) a1 l2 l3 l4 (FR 2 l4.toInt.toNat) l6 ((0 : Int32)) n sl SH FI FL FR v st → v.toInt = (fe E N (pl_f (pl_B Q.1 N) (Q.2.reverse.drop j)) k s).2 ∧ ∃ F2, st = (n, sl, SH, F2, FL, FR) ∧ (∀ c, c ≠ 20 → F2 c = FI c) ∧ (∀ x, x < 64 → F2 20 x = (fe E N (pl_f (pl_B Q.1 N) (Q.2.reverse.drop j)) k s).1 x) := by
        intro l6 h6 hB h
        obtain ⟨g2, h⟩ := h
        rw [er] at h
        obtain ⟨k2, s2, l2', l3', F2, z1, z2, z3, z4, z5, z6, z7, z8⟩ := c_fe88 (E := E) hS hN hN2 h6 hB (by omega) g2 0 k s l2 l3 0 FI (by first | decide | (simp; done) | (simp [ms_0]; done)) (by omega) h3 hk h2 hsk hE hc ho h
        rw [el, z2]
        obtain ⟨y1, F3, y2, y3, y4⟩ := ih (j + 1) k2 s2 l2' l3' (l4 + (1 : Int32)) F2 nj (by omega) z3 z1 z4 z5 (cE_20 hE z6) (crx_20 hQ z6) z7 z8
        exact ⟨y1, F3, y2, fun c hc => by rw [y3 c hc, z6 c hc], y4⟩
      rcases h with ⟨b2, h⟩ | ⟨b2, c4, e4, h⟩
      · have hf : Q.1 = false := by
          cases e : Q.1 with
          | false => rfl
          | true => have := hQ.2.1 e; exfalso; omega
        have eB : pl_B Q.1 N p = N := by unfold pl_B; rw [hf, if_neg (by first | decide | (simp; done) | (simp [ms_0]; done))]
        exact go a1 (by rw [eB]; exact hN) (by rw [eB]; omega) h
      · have ht : Q.1 = true := by
          cases e : Q.1 with
          | true => rfl
          | false => exact absurd (hQ.1 e) b2
        have eB : pl_B Q.1 N p = p.2.1.toNat := by unfold pl_B; rw [ht, if_pos rfl]
        rw [er] at e4
        cases e4
        obtain ⟨c1, c2, c3, c5, c6, c7, c8⟩ := hc
        exact go (FI (3 + j) 2) (by rw [eB, c2]; omega) (by rw [eB]; omega) h
    · rw [h4, hn] at b1
      have ej : j = Q.2.length := by omega
      rw [List.drop_eq_nil_of_le (by rw [List.length_reverse]; omega)]
      exact ⟨by rw [e1]; exact h2, FI, e, fun _ _ => rfl, ho⟩
/-- Arrays.fill -/
theorem c_fill {c z : Nat} {a2 : Int32} {u : Unit} (hz : (SH c).2 = z) (hz2 : z ≤ 100000) : ∀ (g i : Nat) (l2 l3 : Int32) (FI : Nat → Nat → Int32), l2.toInt = i → l3.toInt = z → i ≤ z → (∀ x, x < i → FI c x = a2) → GJ7_fill_53178_5 (some c) a2 g l2 l3 n sl SH FI FL FR u st → ∃ F2, st = (n, sl, SH, F2, FL, FR) ∧ (∀ d, d ≠ c → F2 d = FI d) ∧ (∀ x, x < z → F2 c x = a2) := by
  intro g
  induction g with
  | zero => intro i l2 l3 FI _ _ _ _ h; exact h.elim
  | succ g ih =>
    intro i l2 l3 FI h2 h3 hi hd h
    rcases h with ⟨b1, c2, e2, -, h⟩ | ⟨b1, -, e⟩
    · rw [h2, h3] at b1
      cases e2
      rw [show l2.toInt.toNat = i by omega] at h
      obtain ⟨F2, y1, y2, y3⟩ := ih (i + 1) (l2 + (1 : Int32)) l3 _ (by rw [i_add h2 (by first | decide | (simp; done) | (simp [ms_0]; done) : ((1 : Int32)).toInt = 1) (by omega) (by omega)]; omega) h3 (by omega) (fun x hx => by
        by_cases e : x = i
        · subst e; exact h_up_eq
        · rw [h_up_ne e]; exact hd x (by omega)) h
      exact ⟨F2, y1, fun d hd => by rw [y2 d hd, h_up_nc hd], y3⟩
    · rw [h2, h3] at b1
      exact ⟨FI, e, fun _ _ => rfl, fun x hx => hd x (by omega)⟩
theorem c_fetch {a1 : Int32} {N : Nat} {FI : Nat → Nat → Int32} (hS : h_S n SH) (t1 : tx FR 1 2 3) (hN : a1.toInt = N) (h1 : 1 ≤ N) (hN2 : N ≤ 512) (hE : cE FI FL FR SH E) (hQ : crx FI FL FR SH 1 3 Q) (h : RX11_fetch a1 n sl SH FI FL FR v st) : v.toInt = (fe E N (pl_Q N Q) 0 (fun _ => 0, 0)).2 ∧ ∃ F2, st = (n, sl, SH, F2, FL, FR) ∧ (∀ c, c ≠ 0 → c ≠ 20 → F2 c = FI c) ∧ (∀ k, k ≠ 10 → F2 0 k = FI 0 k) ∧ (F2 0 10).toInt = (((N + 7) / 8 : Nat) : Int) ∧ (∀ x, x < (N + 7) / 8 → F2 20 x = (fe E N (pl_Q N Q) 0 (fun _ => 0, 0)).1 x) := by
  have h := P_n h (by rw [hN, show ((1 : Int32)).toInt = 1 by first | decide | (simp; done) | (simp [ms_0]; done)]; omega)
  have h := P_n h (by rw [hN, show ((512 : Int32)).toInt = 512 by first | decide | (simp; done) | (simp [ms_0]; done)]; omega)
  obtain ⟨v2, n2, sl2, SH2, FI2, FL2, FR2, hf, -, g, h⟩ := h
  obtain ⟨c1, e1, g2, hf⟩ := hf
  cases e1
  have hz : (SH 20).2 = 64 := by rw [s20 hS]
  obtain ⟨F2, y1, y2, y3⟩ := c_fill hz (by first | decide | (simp; done) | (simp [ms_0]; done)) g2 0 0 _ FI (by first | decide | (simp; done) | (simp [ms_0]; done)) (by rw [hz]; (first | decide | (simp; done) | (simp [ms_0]; done))) (by omega) (fun x hx => by omega) hf
  first | (obtain ⟨zz1, zz2, zz3, zz4, zz5, zz6⟩ := st_c y1; (try subst zz1); (try subst zz2); (try subst zz3); (try subst zz4); (try subst zz5); (try subst zz6)) | cases y1
  have e7 : ((a1 + (7 : Int32)) / (8 : Int32)).toInt = (((N + 7) / 8 : Nat) : Int) := by
    rw [i_div (i_add hN (by first | decide | (simp; done) | (simp [ms_0]; done) : ((7 : Int32)).toInt = 7) (by omega) (by omega)) (by first | decide | (simp; done) | (simp [ms_0]; done) : ((8 : Int32)).toInt = 8) (by omega) (by first | decide | (simp; done) | (simp [ms_0]; done))]
    omega
  have F0 : ∀ c, c ≠ 0 → c ≠ 20 → (h_up F2 0 10 ((a1 + (7 : Int32)) / (8 : Int32))) c = FI c := fun c c1 c2 => by rw [h_up_nc c1, y2 c c2]
  have hE2 : cE (h_up F2 0 10 ((a1 + (7 : Int32)) / (8 : Int32))) FL FR SH E := by
    obtain ⟨h1, h2, h3, h4, h5, h6, h7, h8⟩ := hE
    refine ⟨h1, by rw [F0 25 (by first | decide | (simp; done) | (simp [ms_0]; done)) (by first | decide | (simp; done) | (simp [ms_0]; done))]; exact h2, fun k hk => ?_, by rw [F0 23 (by first | decide | (simp; done) | (simp [ms_0]; done)) (by first | decide | (simp; done) | (simp [ms_0]; done))]; exact h4, by rw [F0 23 (by first | decide | (simp; done) | (simp [ms_0]; done)) (by first | decide | (simp; done) | (simp [ms_0]; done))]; exact h5, h6, by rw [F0 23 (by first | decide | (simp; done) | (simp [ms_0]; done)) (by first | decide | (simp; done) | (simp [ms_0]; done))]; exact h7, by rw [F0 23 (by first | decide | (simp; done) | (simp [ms_0]; done)) (by first | decide | (simp; done) | (simp [ms_0]; done))]; exact h8⟩
    obtain ⟨r, r1, r2, r3, r4⟩ := h3 k hk
    exact ⟨r, r1, r2, r3, bk_fr r4 (F0 r (by have := r4.1.2; omega) (by have := r4.1.2; omega))⟩
  have hQ2 : crx (h_up F2 0 10 ((a1 + (7 : Int32)) / (8 : Int32))) FL FR SH 1 3 Q := crx_fr hQ (fun r hr => F0 r (by have := hr.2; omega) (by have := hr.2; omega)) (F0 1 (by first | decide | (simp; done) | (simp [ms_0]; done)) (by first | decide | (simp; done) | (simp [ms_0]; done))) (fun i hi => ⟨F0 (3 + i) (by omega) (by omega), rfl, rfl⟩)
  obtain ⟨z1, F4, z2, z3, z4⟩ := c_fe40 (E := E) (Q := Q) hS t1 hN hN2 g 0 0 (fun _ => 0, 0) 0 0 0 _ (by first | decide | (simp; done) | (simp [ms_0]; done)) (by omega) (by first | decide | (simp; done) | (simp [ms_0]; done)) (by omega) (by first | decide | (simp; done) | (simp [ms_0]; done)) (by first | decide | (simp; done) | (simp [ms_0]; done)) hE2 hQ2 (fun x hx => by rw [h_up_nc (by first | decide | (simp; done) | (simp [ms_0]; done))]; exact y3 x hx) h
  refine ⟨z1, F4, z2, fun c c1 c2 => by rw [z3 c c2, F0 c c1 c2], fun k hk => by rw [z3 0 (by first | decide | (simp; done) | (simp [ms_0]; done)), h_up_ne hk, y2 0 (by first | decide | (simp; done) | (simp [ms_0]; done))], ?_, fun x hx => z4 x (by omega)⟩
  rw [z3 0 (by first | decide | (simp; done) | (simp [ms_0]; done)), h_up_eq]
  exact e7
end CFE
end
section
/-! THE CLASS'S store. -/
section CSO
variable {n sl : Nat} {SH : Nat → Nat × Nat} {FR : Nat → Nat → Option Nat} {st : hS} {E : ms_E} {v : Int32} {Q : ms_Q}
theorem cE_um {FI : Nat → Nat → Int32} {FL : Nat → Nat → Int64} {a : Nat} {x : Int32} (h : cE FI FL FR SH E) (hx : 0 ≤ x.toInt ∧ x.toInt ≤ 255) : cE (h_up FI 25 a x) FL FR SH (ms_um E a x) := by
  obtain ⟨h1, h2, h3, h4, h5, h6, h7, h8⟩ := h
  refine ⟨h1, fun i hi => ?_, fun k hk => ?_, by rw [h_up_nc (by first | decide | (simp; done) | (simp [ms_0]; done))]; exact h4, by rw [h_up_nc (by first | decide | (simp; done) | (simp [ms_0]; done))]; exact h5, h6, by rw [h_up_nc (by first | decide | (simp; done) | (simp [ms_0]; done))]; exact h7, by rw [h_up_nc (by first | decide | (simp; done) | (simp [ms_0]; done))]; exact h8⟩
  · show h_up FI 25 a x 25 i = va_up (ms_mm E) a x i ∧ 0 ≤ (va_up (ms_mm E) a x i).toInt ∧ (va_up (ms_mm E) a x i).toInt ≤ 255
    by_cases e : i = a
    · subst e
      rw [h_up_eq, va_s]
      exact ⟨rfl, hx⟩
    · rw [h_up_ne e, va_o e]
      exact h2 i hi
  · obtain ⟨r, r1, r2, r3, r4⟩ := h3 k hk
    exact ⟨r, r1, r2, r3, bk_fr r4 (h_up_nc (by have := r4.1.2; omega))⟩
theorem cE_ur {FI : Nat → Nat → Int32} {FL : Nat → Nat → Int64} {r : Nat} {x : Int64} (h : cE FI FL FR SH E) : cE FI (h_up FL 24 r x) FR SH (ms_ur E r x) := by
  obtain ⟨h1, h2, h3, h4, h5, h6, h7, h8⟩ := h
  refine ⟨fun i hi => ?_, h2, h3, h4, h5, by rw [h_up_nc (by first | decide | (simp; done) | (simp [ms_0]; done))]; exact h6, by rw [h_up_nc (by first | decide | (simp; done) | (simp [ms_0]; done))]; exact h7, by rw [h_up_nc (by first | decide | (simp; done) | (simp [ms_0]; done))]; exact h8⟩
  show h_up FL 24 r x 24 i = va_up (ms_rg E) r x i
  by_cases e : i = r
  · subst e
    rw [h_up_eq, va_s]
  · rw [h_up_ne e, va_o e]
    exact h1 i hi
theorem c_putBit {FI : Nat → Nat → Int32} {FL : Nat → Nat → Int64} {q i : Nat} {H : ms_H} {a2 b : Int32} (hS : h_S n SH) (hE : cE FI FL FR SH E) (hc : ct FI FL FR SH q H) (h2 : a2.toInt = i) (hi : i ≤ 10000) (hb : b = 0 ∨ b = 1) (h : RX1_putBit (some q) a2 b n sl SH FI FL FR v st) : ∃ F2 L2, st = (n, sl, SH, F2, L2, FR) ∧ (∀ c, c ≠ 25 → F2 c = FI c) ∧ (∀ c, c ≠ 24 → L2 c = FL c) ∧ ((so_1 E H i b = none ∧ v.toInt = 0 ∧ F2 = FI ∧ L2 = FL) ∨ (∃ E2, so_1 E H i b = some E2 ∧ ¬ v.toInt = 0 ∧ cE F2 L2 FR SH E2)) := by
  obtain ⟨c1, c2, c3, c4⟩ := id hc
  obtain ⟨d1, d2, d3⟩ := q_i8 h2 (by omega)
  have d4 : (a2 / (8 : Int32)).toInt64 = Int64.ofNat (i / 8) := l_ofn (i_2l d1) (by omega)
  have d5 : i < 64 → (a2.toInt64 &&& (63 : Int64)) = Int64.ofNat i := fun hl => by
    rw [show a2.toInt64 = Int64.ofNat i from l_ofn (i_2l h2) (by omega)]
    exact sh_63 i hl
  have h8 : i % 8 < 8 := Nat.mod_lt _ (by first | decide | (simp; done) | (simp [ms_0]; done))
  have no : so_1 E H i b = none → v = 0 → st = (n, sl, SH, FI, FL, FR) → ∃ F2 L2, st = (n, sl, SH, F2, L2, FR) ∧ (∀ c, c ≠ 25 → F2 c = FI c) ∧ (∀ c, c ≠ 24 → L2 c = FL c) ∧ ((so_1 E H i b = none ∧ v.toInt = 0 ∧ F2 = FI ∧ L2 = FL) ∨ (∃ E2, so_1 E H i b = some E2 ∧ ¬ v.toInt = 0 ∧ cE F2 L2 FR SH E2)) := fun q1 q2 q3 => ⟨FI, FL, q3, fun _ _ => rfl, fun _ _ => rfl, Or.inl ⟨q1, by rw [q2]; (first | decide | (simp; done) | (simp [ms_0]; done)), rfl, rfl⟩⟩
  obtain ⟨q1, e1, h⟩ := h
  cases e1
  rw [c1, show ((1 : Int32)).toInt = 1 by first | decide | (simp; done) | (simp [ms_0]; done)] at h
  rcases h with ⟨k1, h⟩ | ⟨k1, h⟩
  · obtain ⟨q3, e3, -, h⟩ := h
    cases e3
    rw [c2, d4] at h
    rcases h with ⟨g, e1, e⟩ | ⟨g, h⟩
    · rw [c_hasB hS] at g
      exact no (by unfold so_1; rw [if_pos k1, if_pos g]) e1 e
    · rw [c_hasB hS] at g
      obtain ⟨-, -, -, -, e1, e⟩ := h
      have hm := hE.2.1 (H.2.1 + Int64.ofNat (i / 8)).toInt.toNat (by omega)
      rw [l_2i (A := (H.2.1 + Int64.ofNat (i / 8)).toInt) rfl (by omega) (by omega), d2, hm.1] at e
      refine ⟨_, _, e, fun c hc => h_up_nc hc, fun _ _ => rfl, Or.inr ⟨_, ?_, by rw [e1]; (first | decide | (simp; done) | (simp [ms_0]; done)), cE_um hE (sb8_rg hm.2.1 hm.2.2 h8 hb)⟩⟩
      unfold so_1
      rw [if_pos k1, if_neg g]
      rfl
  · obtain ⟨q6, e6, q7, e7, h⟩ := h
    cases e6; cases e7
    rw [c1, show ((2 : Int32)).toInt = 2 by first | decide | (simp; done) | (simp [ms_0]; done)] at h
    rcases h with ⟨k2, h⟩ | ⟨k2, e1, e⟩
    · have hr : 0 ≤ H.2.1.toInt ∧ H.2.1.toInt ≤ 31 := by
        rcases c3 with q | q | q | q | q
        · exfalso; have := q.1; omega
        · exfalso; have := q.1; omega
        · exact q.2.2
        · exfalso; have := q.1; omega
        · exfalso; have := q.1; omega
      rw [h2, show ((64 : Int32)).toInt = 64 by first | decide | (simp; done) | (simp [ms_0]; done)] at h
      rcases h with ⟨g, h⟩ | ⟨g, e1, e⟩
      · rw [c2, show ((0 : Int64)).toInt = 0 by first | decide | (simp; done) | (simp [ms_0]; done)] at h
        have h := P_n h (by omega)
        have e32 : ((Int32.ofNat (SH 24).2).toInt64).toInt = 32 := by
          rw [hS.2 24 (by first | decide | (simp; done) | (simp [ms_0]; done))]
          decide +kernel
        rw [e32] at h
        have h := P_p h (by omega)
        obtain ⟨-, -, e1, e⟩ := h
        rw [l_2i (A := H.2.1.toInt) rfl (by omega) (by omega), d5 (by omega), hE.1 _ (by omega)] at e
        refine ⟨_, _, e, fun _ _ => rfl, fun c hc => h_up_nc hc, Or.inr ⟨_, ?_, by rw [e1]; (first | decide | (simp; done) | (simp [ms_0]; done)), cE_ur hE⟩⟩
        unfold so_1
        rw [if_neg k1, if_pos k2, if_neg (by omega)]
        rfl
      · exact no (by unfold so_1; rw [if_neg k1, if_pos k2, if_pos (by omega)]) e1 e
    · exact no (by unfold so_1; rw [if_neg k1, if_neg k2]) e1 e
/-- memory and registers do not matter to parts -/
theorem cq_24 {FI F2 : Nat → Nat → Int32} {FL L2 : Nat → Nat → Int64} {q : Nat} {p : ms_P} (hc : cq FI FL FR SH q p) (hq : q ≠ 24 ∧ q ≠ 25) (f : ∀ c, c ≠ 25 → F2 c = FI c) (g : ∀ c, c ≠ 24 → L2 c = FL c) : cq F2 L2 FR SH q p := cq_fr hc (fun r hr => f r (by have := hr.2; omega)) (f q hq.2) (g q hq.1) rfl
theorem c_so80 {Kn : Int32 → Int32 → Int32 → Nat → Nat → (Nat → Nat × Nat) → (Nat → Nat → Int32) → (Nat → Nat → Int64) → (Nat → Nat → Option Nat) → Int32 → hS → Prop} {a1 l4 l6 : Int32} {N B q : Nat} {p : ms_P} {tp : Nat → Int32} (hS : h_S n SH) (hN : a1.toInt = N) (hN2 : N ≤ 512) (h6 : l6.toInt = B) (hB : B ≤ 4096) (hq : 3 ≤ q ∧ q ≤ 18) (htp : ∀ x, 8 * x < N → 0 ≤ (tp x).toInt ∧ (tp x).toInt ≤ 255) : ∀ (g i k : Nat) (s : ms_E × Nat) (l2 l3 l7 : Int32) (FI : Nat → Nat → Int32) (FL : Nat → Nat → Int64), l7.toInt = i → i ≤ B → l3.toInt = k → k ≤ N → l2.toInt = s.2 → s.2 ≤ k → cE FI FL FR SH s.1 → cq FI FL FR SH q p → (∀ x, 8 * x < N → FI 19 x = tp x) → GX11_store_80 Kn a1 g l2 l3 l4 (some q) l6 l7 n sl SH FI FL FR v st → ∃ k2 s2 l2' l3' F2 L2, k2 ≤ N ∧ (∀ rest, so tp N (pl_1 p (B - i) i ++ rest) k s = so tp N rest k2 s2) ∧ l3'.toInt = ((k2 : Nat) : Int) ∧ l2'.toInt = ((s2.2 : Nat) : Int) ∧ s2.2 ≤ k2 ∧ (∀ c, c ≠ 25 → F2 c = FI c) ∧ (∀ c, c ≠ 24 → L2 c = FL c) ∧ cE F2 L2 FR SH s2.1 ∧ Kn l2' l3' (l4 + (1 : Int32)) n sl SH F2 L2 FR v st := by
  intro g
  induction g with
  | zero => intro i k s l2 l3 l7 FI FL _ _ _ _ _ _ _ _ _ h; exact h.elim
  | succ g ih =>
    intro i k s l2 l3 l7 FI FL h7 hi h3 hk h2 hsk hE hc ho h
    rcases h with ⟨b1, h⟩ | ⟨b1, h⟩
    · rw [h7, h6] at b1
      rw [show (l3.toInt < a1.toInt) = ((k : Int) < (N : Int)) by rw [h3, hN]] at h
      rcases h with ⟨b2, h⟩ | ⟨b2, h⟩
      · obtain ⟨-, -, -, c3, e3, v3, n3, sl3, SH3, FI3, FL3, FR3, hb, h⟩ := h
        cases e3
        obtain ⟨c1, c2, c3, c4, c5, c6, c7⟩ := id hc
        have ei : (FI q 3 + l7).toInt = ((p.2.2.toNat + i : Nat) : Int) := by
          rw [i_add c3 h7 (by omega) (by omega)]
          omega
        obtain ⟨d1, d2, d3⟩ := q_i8 h3 (by omega)
        have ht := htp (k / 8) (by omega)
        rw [show (l3 / (8 : Int32)).toInt.toNat = k / 8 by omega, d3, ho (k / 8) (by omega), bt8_u ht.1 ht.2 (Nat.mod_lt _ (by first | decide | (simp; done) | (simp [ms_0]; done)))] at hb
        have hb01 := bt8_01 (k := k % 8) ht.1 ht.2 (Nat.mod_lt _ (by first | decide | (simp; done) | (simp [ms_0]; done)))
        obtain ⟨F3, L3, y1, y2, y3, y4⟩ := c_putBit hS hE c1 ei (by omega) hb01 hb
        first | (obtain ⟨zz1, zz2, zz3, zz4, zz5, zz6⟩ := st_c y1; (try subst zz1); (try subst zz2); (try subst zz3); (try subst zz4); (try subst zz5); (try subst zz6)) | cases y1
        have n7 : (l7 + (1 : Int32)).toInt = ((i + 1 : Nat) : Int) := by
          rw [i_add h7 (by first | decide | (simp; done) | (simp [ms_0]; done) : ((1 : Int32)).toInt = 1) (by omega) (by omega)]
          omega
        have n3 : (l3 + (1 : Int32)).toInt = ((k + 1 : Nat) : Int) := by
          rw [i_add h3 (by first | decide | (simp; done) | (simp [ms_0]; done) : ((1 : Int32)).toInt = 1) (by omega) (by omega)]
          omega
        have el : ∀ rest, so tp N (pl_1 p (B - i) i ++ rest) k s = so tp N (pl_1 p (B - (i + 1)) (i + 1) ++ rest) (k + 1) (so_st tp k (p, i) s) := fun rest => by
          rw [show B - i = (B - (i + 1)) + 1 by omega, pl_1]
          show so tp N ((p, i) :: (pl_1 p (B - (i + 1)) (i + 1) ++ rest)) k s = _
          rw [so, if_pos (by omega)]
        have step : ∀ (l2' : Int32) (s' : ms_E × Nat), so_st tp k (p, i) s = s' → l2'.toInt = s'.2 → s'.2 ≤ k + 1 → cE F3 L3 FR SH s'.1 → GX11_store_80 Kn a1 g l2' (l3 + (1 : Int32)) l4 (some q) l6 (l7 + (1 : Int32)) n sl SH F3 L3 FR v st → ∃ k2 s2 l2' l3' F2 L2, k2 ≤ N ∧ (∀ rest, so tp N (pl_1 p (B - i) i ++ rest) k s = so tp N rest k2 s2) ∧ l3'.toInt = ((k2 : Nat) : Int) ∧ l2'.toInt = ((s2.2 : Nat) : Int) ∧ s2.2 ≤ k2 ∧ (∀ c, c ≠ 25 → F2 c = FI c) ∧ (∀ c, c ≠ 24 → L2 c = FL c) ∧ cE F2 L2 FR SH s2.1 ∧ Kn l2' l3' (l4 + (1 : Int32)) n sl SH F2 L2 FR v st := by
          intro l2' s' es hl2 hs2 hE3 h
          obtain ⟨k2, s2, l2'', l3'', F2, L2, z1, z2, z3, z4, z5, z6, z7, z8, z9⟩ := ih (i + 1) (k + 1) s' l2' (l3 + (1 : Int32)) (l7 + (1 : Int32)) F3 L3 n7 (by omega) n3 (by omega) hl2 hs2 hE3 (cq_24 hc (by omega) y2 y3) (fun x hx => by rw [y2 19 (by first | decide | (simp; done) | (simp [ms_0]; done))]; exact ho x hx) h
          exact ⟨k2, s2, l2'', l3'', F2, L2, z1, fun rest => by rw [el rest, es]; exact z2 rest, z3, z4, z5, fun c hc => by rw [z6 c hc, y2 c hc], fun c hc => by rw [z7 c hc, y3 c hc], z8, z9⟩
        rcases y4 with ⟨u1, u2, u3, u4⟩ | ⟨E2, u1, u2, u3⟩
        · have h := P_p h u2
          refine step l2 s ?_ h2 (by omega) (by rw [u3, u4]; exact hE) h
          unfold so_st
          (try dsimp only)
          rw [u1]
        · have h := P_n h u2
          refine step (l2 + (1 : Int32)) (E2, s.2 + 1) ?_ ?_ (by show s.2 + 1 ≤ k + 1; omega) u3 h
          · unfold so_st
            (try dsimp only)
            rw [u1]
          · rw [i_add h2 (by first | decide | (simp; done) | (simp [ms_0]; done) : ((1 : Int32)).toInt = 1) (by omega) (by omega)]
            show (s.2 : Int) + 1 = ((s.2 + 1 : Nat) : Int)
            omega
      · exact ⟨k, s, l2, l3, FI, FL, hk, fun rest => by rw [so_n (by omega), so_n (by omega)], h3, h2, hsk, fun _ _ => rfl, fun _ _ => rfl, hE, h⟩
    · rw [h7, h6] at b1
      refine ⟨k, s, l2, l3, FI, FL, hk, fun rest => ?_, h3, h2, hsk, fun _ _ => rfl, fun _ _ => rfl, hE, h⟩
      rw [show B - i = 0 by omega]
      rfl
theorem crx_24 {FI F2 : Nat → Nat → Int32} {FL L2 : Nat → Nat → Int64} (h : crx FI FL FR SH 1 3 Q) (f : ∀ c, c ≠ 25 → F2 c = FI c) (g : ∀ c, c ≠ 24 → L2 c = FL c) : crx F2 L2 FR SH 1 3 Q := crx_fr h (fun r hr => f r (by have := hr.2; omega)) (f 1 (by first | decide | (simp; done) | (simp [ms_0]; done))) (fun i hi => ⟨f (3 + i) (by omega), g (3 + i) (by omega), rfl⟩)
theorem c_so32 {a1 : Int32} {N : Nat} {tp : Nat → Int32} (hS : h_S n SH) (t1 : tx FR 1 2 3) (hN : a1.toInt = N) (hN2 : N ≤ 512) (htp : ∀ x, 8 * x < N → 0 ≤ (tp x).toInt ∧ (tp x).toInt ≤ 255) : ∀ (g j k : Nat) (s : ms_E × Nat) (l2 l3 l4 : Int32) (FI : Nat → Nat → Int32) (FL : Nat → Nat → Int64), l4.toInt = j → j ≤ Q.2.length → l3.toInt = k → k ≤ N → l2.toInt = s.2 → s.2 ≤ k → cE FI FL FR SH s.1 → crx FI FL FR SH 1 3 Q → (∀ x, 8 * x < N → FI 19 x = tp x) → GX11_store_32 a1 g l2 l3 l4 n sl SH FI FL FR v st → v.toInt = (so tp N (pl_f (pl_B Q.1 N) (Q.2.reverse.drop j)) k s).2 ∧ ∃ F1 F2 L2, st = (n, sl, SH, F2, L2, FR) ∧ F2 = h_up F1 0 9 ((0 : Int32)) ∧ (∀ c, c ≠ 25 → F1 c = FI c) ∧ (∀ c, c ≠ 24 → L2 c = FL c) ∧ cE F1 L2 FR SH (so tp N (pl_f (pl_B Q.1 N) (Q.2.reverse.drop j)) k s).1 := by
  intro g
  induction g with
  | zero => intro j k s l2 l3 l4 FI FL _ _ _ _ _ _ _ _ _ h; exact h.elim
  | succ g ih =>
    intro j k s l2 l3 l4 FI FL h4 hj h3 hk h2 hsk hE hQ ho h
    have hn := crx_n hQ
    have h16 := hQ.2.2.1
    rcases h with ⟨b1, -, h⟩ | ⟨b1, e1, e⟩
    · rw [h4, hn] at b1
      obtain ⟨p, hp⟩ := lx_i (L := Q.2.reverse) (i := j) (by rw [List.length_reverse]; omega)
      obtain ⟨hc, hjl⟩ := cq_at hQ hp
      have er : FR 2 l4.toInt.toNat = some (3 + j) := by
        rw [show l4.toInt.toNat = j by omega]
        exact t1.2 j (by omega)
      have el : pl_f (pl_B Q.1 N) (Q.2.reverse.drop j) = pl_1 p (pl_B Q.1 N p - 0) 0 ++ pl_f (pl_B Q.1 N) (Q.2.reverse.drop (j + 1)) := by
        rw [pl_f_r]
        unfold pl_r
        rw [hp]
      have nj : (l4 + (1 : Int32)).toInt = ((j + 1 : Nat) : Int) := by
        rw [i_add h4 (by first | decide | (simp; done) | (simp [ms_0]; done) : ((1 : Int32)).toInt = 1) (by omega) (by omega)]
        omega
      have go : ∀ l6 : Int32, l6.toInt = ((pl_B Q.1 N p : Nat) : Int) → pl_B Q.1 N p ≤ 4096 → RX11_store_80 (GX11_store_32 a1 g) a1 l2 l3 l4 (FR 2 l4.toInt.toNat) l6 ((0 : Int32)) n sl SH FI FL FR v st → v.toInt = (so tp N (pl_f (pl_B Q.1 N) (Q.2.reverse.drop j)) k s).2 ∧ ∃ F1 F2 L2, st = (n, sl, SH, F2, L2, FR) ∧ F2 = h_up F1 0 9 ((0 : Int32)) ∧ (∀ c, c ≠ 25 → F1 c = FI c) ∧ (∀ c, c ≠ 24 → L2 c = FL c) ∧ cE F1 L2 FR SH (so tp N (pl_f (pl_B Q.1 N) (Q.2.reverse.drop j)) k s).1 := by
        intro l6 h6 hB h
        obtain ⟨g2, h⟩ := h
        rw [er] at h
        obtain ⟨k2, s2, l2', l3', F2, L2, z1, z2, z3, z4, z5, z6, z7, z8, z9⟩ := c_so80 hS hN hN2 h6 hB (by omega) htp g2 0 k s l2 l3 0 FI FL (by first | decide | (simp; done) | (simp [ms_0]; done)) (by omega) h3 hk h2 hsk hE hc ho h
        rw [el, z2]
        obtain ⟨y1, F3, F4, L3, y2, y3, y4, y5, y6⟩ := ih (j + 1) k2 s2 l2' l3' (l4 + (1 : Int32)) F2 L2 nj (by omega) z3 z1 z4 z5 z8 (crx_24 hQ z6 z7) (fun x hx => by rw [z6 19 (by first | decide | (simp; done) | (simp [ms_0]; done))]; exact ho x hx) z9
        exact ⟨y1, F3, F4, L3, y2, y3, fun c hc => by rw [y4 c hc, z6 c hc], fun c hc => by rw [y5 c hc, z7 c hc], y6⟩
      rcases h with ⟨b2, h⟩ | ⟨b2, c4, e4, h⟩
      · have hf : Q.1 = false := by
          cases e : Q.1 with
          | false => rfl
          | true => have := hQ.2.1 e; exfalso; omega
        have eB : pl_B Q.1 N p = N := by unfold pl_B; rw [hf, if_neg (by first | decide | (simp; done) | (simp [ms_0]; done))]
        exact go a1 (by rw [eB]; exact hN) (by rw [eB]; omega) h
      · have ht : Q.1 = true := by
          cases e : Q.1 with
          | true => rfl
          | false => exact absurd (hQ.1 e) b2
        have eB : pl_B Q.1 N p = p.2.1.toNat := by unfold pl_B; rw [ht, if_pos rfl]
        rw [er] at e4
        cases e4
        obtain ⟨c1, c2, c3, c5, c6, c7, c8⟩ := hc
        exact go (FI (3 + j) 2) (by rw [eB, c2]; omega) (by rw [eB]; omega) h
    · rw [h4, hn] at b1
      have ej : j = Q.2.length := by omega
      rw [List.drop_eq_nil_of_le (by rw [List.length_reverse]; omega)]
      exact ⟨by rw [e1]; exact h2, FI, _, FL, e, rfl, fun _ _ => rfl, fun _ _ => rfl, hE⟩
theorem c_store {a1 : Int32} {N T : Nat} {tp : Nat → Int32} {FI : Nat → Nat → Int32} {FL : Nat → Nat → Int64} (hS : h_S n SH) (t1 : tx FR 1 2 3) (hN : a1.toInt = N) (h1 : 1 ≤ N) (hN2 : N ≤ 512) (hT : (FI 0 9).toInt = T) (hT2 : T ≤ 1000) (ht : ∀ x, x < T → FI 19 x = tp x) (htp : ∀ x, x < T → 0 ≤ (tp x).toInt ∧ (tp x).toInt ≤ 255) (hE : cE FI FL FR SH E) (hQ : crx FI FL FR SH 1 3 Q) (h : RX11_store a1 n sl SH FI FL FR v st) : (8 * T < N ∧ v = -1 ∧ st = (n, sl, SH, FI, FL, FR)) ∨ (N ≤ 8 * T ∧ v.toInt = (so tp N (pl_Q N Q) 0 (E, 0)).2 ∧ ∃ F1 F2 L2, st = (n, sl, SH, F2, L2, FR) ∧ F2 = h_up F1 0 9 ((0 : Int32)) ∧ (∀ c, c ≠ 25 → F1 c = FI c) ∧ (∀ c, c ≠ 24 → L2 c = FL c) ∧ cE F1 L2 FR SH (so tp N (pl_Q N Q) 0 (E, 0)).1) := by
  have h := P_n h (by rw [hN, show ((1 : Int32)).toInt = 1 by first | decide | (simp; done) | (simp [ms_0]; done)]; omega)
  have h := P_n h (by rw [hN, show ((512 : Int32)).toInt = 512 by first | decide | (simp; done) | (simp [ms_0]; done)]; omega)
  rw [hN, i_mul hT (by first | decide | (simp; done) | (simp [ms_0]; done) : ((8 : Int32)).toInt = 8) (by omega) (by omega)] at h
  rcases h with ⟨h0, e1, e⟩ | ⟨h0, g, h⟩
  · exact Or.inl ⟨by omega, e1, e⟩
  · obtain ⟨y1, F1, F2, L2, y2, y3, y4, y5, y6⟩ := c_so32 (Q := Q) hS t1 hN hN2 (fun x hx => htp x (by omega)) g 0 0 (E, 0) 0 0 0 FI FL (by first | decide | (simp; done) | (simp [ms_0]; done)) (by omega) (by first | decide | (simp; done) | (simp [ms_0]; done)) (by omega) (by first | decide | (simp; done) | (simp [ms_0]; done)) (by first | decide | (simp; done) | (simp [ms_0]; done)) hE hQ (fun x hx => ht x (by omega)) h
    exact Or.inr ⟨by omega, y1, F1, F2, L2, y2, y3, y4, y5, y6⟩
end CSO
end
