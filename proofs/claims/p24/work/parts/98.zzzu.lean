/-! THE LAW'S STATE: what both sides hold between two calls, and the plain calls. -/
/-- what operations ask for; the lists; the result; OUT -/
abbrev ab_A := ms_E × (Nat → List Int32) × ms_Q × (Nat × (Nat → Int32))
def cL (FI : Nat → Nat → Int32) (FR : Nat → Nat → Option Nat) (SH : Nat → Nat × Nat) (LS : Nat → List Int32) : Prop := ∀ k, k < 4 → ∃ r, FR 43 k = some r ∧ (SH r).2 = (LS k).length ∧ (LS k).length ≤ 600 ∧ bk FI SH r 0 (LS k)
def rL (FI : Nat → Nat → Int32) (SH : Nat → Nat × Nat) (LS : Nat → List Int32) : Prop := ∀ k, k < 4 → (FI 125 (16 + k)).toInt = ((LS k).length : Int) ∧ (LS k).length ≤ 600 ∧ bk FI SH 124 (600 * (16 + k)) (LS k)
def oV (N : Int32) (R : Nat → Int32) (O : Nat × (Nat → Int32)) : Prop := N.toInt = (O.1 : Int) ∧ O.1 ≤ 64 ∧ ∀ x, x < O.1 → R x = O.2 x
def cB (SH : Nat → Nat × Nat) (FI : Nat → Nat → Int32) (FL : Nat → Nat → Int64) (FR : Nat → Nat → Option Nat) (A : ab_A) : Prop := cE FI FL FR SH A.1 ∧ cL FI FR SH A.2.1 ∧ crx FI FL FR SH 1 3 A.2.2.1 ∧ oV (FI 0 10) (FI 20) A.2.2.2
def rB (SH : Nat → Nat × Nat) (FI : Nat → Nat → Int32) (FL : Nat → Nat → Int64) (A : ab_A) : Prop := rE FI FL SH A.1 ∧ rL FI SH A.2.1 ∧ rr FI FL A.2.2.1 ∧ oV (FI 121 61) (FI 148) A.2.2.2
/-- what two descriptions must share for the class -/
def cb_ag (SH : Nat → Nat × Nat) (FI : Nat → Nat → Int32) (FL : Nat → Nat → Int64) (FR : Nat → Nat → Option Nat) (S2 : Nat → Nat × Nat) (F2 : Nat → Nat → Int32) (L2 : Nat → Nat → Int64) (R2 : Nat → Nat → Option Nat) : Prop := (FL 24 = L2 24 ∧ FI 25 = F2 25 ∧ FR 26 = R2 26 ∧ FR 43 = R2 43) ∧ (FI 23 4 = F2 23 4 ∧ FI 23 5 = F2 23 5 ∧ FI 23 7 = F2 23 7 ∧ FI 23 9 = F2 23 9 ∧ FL 23 6 = L2 23 6 ∧ FL 23 8 = L2 23 8 ∧ FL 23 10 = L2 23 10) ∧ (FI 0 10 = F2 0 10 ∧ FI 20 = F2 20 ∧ FI 1 1 = F2 1 1) ∧ (∀ q, 3 ≤ q → q < 19 → FI q 0 = F2 q 0 ∧ FI q 2 = F2 q 2 ∧ FI q 3 = F2 q 3 ∧ FI q 5 = F2 q 5 ∧ FL q 1 = L2 q 1 ∧ FR q 4 = R2 q 4) ∧ (∀ r, (r = 124 ∨ (27 ≤ r ∧ r ≤ 47) ∨ 176 ≤ r) → ((∃ k, FR 26 k = some r) ∨ (∃ k, FR 43 k = some r) ∨ (∃ q, 3 ≤ q ∧ q < 19 ∧ FR q 4 = some r)) → FI r = F2 r ∧ SH r = S2 r)
section AB
variable {base n sl n2 sl2 : Nat} {SH SH2 S2 : Nat → Nat × Nat} {FI F2 : Nat → Nat → Int32} {FL L2 : Nat → Nat → Int64} {FR R2 : Nat → Nat → Option Nat} {A : ab_A} {s : hS}
theorem bk_ag {r B : Nat} {L : List Int32} (e1 : FI r = F2 r) (e2 : SH r = S2 r) (h : bk F2 S2 r B L) : bk FI SH r B L := by
  obtain ⟨⟨g1, g2⟩, g3, g4, g5⟩ := h
  refine ⟨⟨Nat.zero_le _, g2⟩, by rw [e2]; exact g3, by rw [e2]; exact g4, fun i b hi => ?_⟩
  rw [e1]
  exact g5 i b hi
theorem cB_ag (g : cb_ag SH FI FL FR S2 F2 L2 R2) (h : cB S2 F2 L2 R2 A) : cB SH FI FL FR A := by
  obtain ⟨⟨a1, a2, a3, a4⟩, ⟨b1, b2, b3, b4, b5, b6, b7⟩, ⟨c1, c2, c3⟩, dq, er⟩ := g
  obtain ⟨⟨e1, e2, e3, e4, e5, e6, e7, e8⟩, hl, ⟨q1, q2, q3, q4, q5⟩, o⟩ := h
  refine ⟨⟨by rw [a1]; exact e1, by rw [a2]; exact e2, fun k hk => ?_, by rw [b1]; exact e4, by rw [b2]; exact e5, by rw [b5]; exact e6, by rw [b3, b6]; exact e7, by rw [b4, b7]; exact e8⟩, fun k hk => ?_, ⟨by rw [c3]; exact q1, by rw [c3]; exact q2, q3, q4, ?_⟩, by rw [c1, c2]; exact o⟩
  · obtain ⟨r, r1, r2, r3, r4⟩ := e3 k hk
    rw [← a3] at r1
    obtain ⟨y1, y2⟩ := er r r4.1.2 (Or.inl ⟨k, r1⟩)
    exact ⟨r, r1, by rw [y2]; exact r2, r3, bk_ag y1 y2 r4⟩
  · obtain ⟨r, r1, r2, r3, r4⟩ := hl k hk
    rw [← a4] at r1
    obtain ⟨y1, y2⟩ := er r r4.1.2 (Or.inr (Or.inl ⟨k, r1⟩))
    exact ⟨r, r1, by rw [y2]; exact r2, r3, bk_ag y1 y2 r4⟩
  · refine lv_mono (fun i p hi _ hp => ?_) q5
    obtain ⟨d0, d2, d3, d5, d1, d4⟩ := dq (3 + i) (by omega) (by omega)
    obtain ⟨⟨p1, p2, p3, p4⟩, p5⟩ := hp
    refine ⟨⟨by rw [d0]; exact p1, by rw [d1]; exact p2, p3, fun h4 => ?_⟩, by rw [d2, d3]; exact p5⟩
    obtain ⟨r, B, x1, x2, x3⟩ := p4 h4
    rw [← d4] at x1
    obtain ⟨y1, y2⟩ := er r x3.1.2 (Or.inr (Or.inr ⟨3 + i, by omega, by omega, x1⟩))
    exact ⟨r, B, x1, by rw [d5]; exact x2, bk_ag y1 y2 x3⟩
theorem q_ty (hS : h_S n SH) : ∀ q, 3 ≤ q → q < 19 → (SH q).1 = 5 := by
  intro q h1 h2
  have key : ∀ i : Nat, i < 16 → (hs_L.getD (3 + i) (0, 0)).1 = 5 := by decide +kernel
  have e := hS.2 q (by omega)
  rw [e]
  have k := key (q - 3) (by omega)
  rw [show 3 + (q - 3) = q by omega] at k
  exact k
/-- every row that the class's views read -/
theorem cb_rows (hS : h_S n SH) (hR : g_R n SH FR) (r : Nat) (h : (∃ k, FR 26 k = some r) ∨ (∃ k, FR 43 k = some r) ∨ (∃ q, 3 ≤ q ∧ q < 19 ∧ FR q 4 = some r)) : r < n ∧ (r < 121 ∨ 176 ≤ r) ∧ (SH r).1 = 100 := by
  have h176 := hS.1
  rcases h with ⟨k, h⟩ | ⟨k, h⟩ | ⟨q, q1, q2, h⟩
  · obtain ⟨g1, g2, g3, -⟩ := hR.2.1 26 k r (c26 hS) (Or.inl (by first | decide | (simp; done) | (simp [ms_0]; done))) h
    rw [s26 hS] at g3
    exact ⟨g1, g2, g3⟩
  · obtain ⟨g1, g2, g3, -⟩ := hR.2.1 43 k r (c43 hS) (Or.inl (by first | decide | (simp; done) | (simp [ms_0]; done))) h
    rw [s43 hS] at g3
    exact ⟨g1, g2, g3⟩
  · obtain ⟨g1, g2, g3, -⟩ := hR.2.1 q 4 r (by omega) (Or.inl (by omega)) h
    rw [q_ty hS q q1 q2] at g3
    exact ⟨g1, g2, g3⟩
theorem cb_sm (sm : h_sm base (n, sl, SH, FI, FL, FR) (n2, sl2, S2, F2, L2, R2)) (hS : h_S n SH) (hR : g_R n SH FR) : cb_ag SH FI FL FR S2 F2 L2 R2 := by
  have h176 := hS.1
  have t0 : (SH 0).1 = 11 := by rw [s0 hS]
  have t1 : (SH 1).1 = 8 := by rw [s1 hS]
  have t23 : (SH 23).1 = 1 := by rw [s23 hS]
  refine ⟨⟨(sm_la sm (c24 hS) (by rw [s24 hS])).2, (sm_ia sm (c25 hS) (by rw [s25 hS])).2, (sm_rk (j := 6) sm (c26 hS) (by first | decide | (simp; done) | (simp [ms_0]; done)) (by rw [s26 hS])).2, (sm_rk (j := 6) sm (c43 hS) (by first | decide | (simp; done) | (simp [ms_0]; done)) (by rw [s43 hS])).2⟩, ⟨?_, ?_, ?_, ?_, ?_, ?_, ?_⟩, ⟨?_, (sm_ia sm (c20 hS) (by rw [s20 hS])).2, ?_⟩, fun q h1 h2 => ?_, fun r _ hr => ?_⟩
  · exact sm_i sm (c23 hS) t23 (by first | decide | (simp; done) | (simp [ms_0]; done)) (by first | decide | (simp; done) | (simp [ms_0]; done)) (fun _ _ _ => rfl)
  · exact sm_i sm (c23 hS) t23 (by first | decide | (simp; done) | (simp [ms_0]; done)) (by first | decide | (simp; done) | (simp [ms_0]; done)) (fun _ _ _ => rfl)
  · exact sm_i sm (c23 hS) t23 (by first | decide | (simp; done) | (simp [ms_0]; done)) (by first | decide | (simp; done) | (simp [ms_0]; done)) (fun _ _ _ => rfl)
  · exact sm_i sm (c23 hS) t23 (by first | decide | (simp; done) | (simp [ms_0]; done)) (by first | decide | (simp; done) | (simp [ms_0]; done)) (fun _ _ _ => rfl)
  · exact sm_l sm (c23 hS) t23 (by first | decide | (simp; done) | (simp [ms_0]; done)) (by first | decide | (simp; done) | (simp [ms_0]; done)) (fun _ _ _ => rfl)
  · exact sm_l sm (c23 hS) t23 (by first | decide | (simp; done) | (simp [ms_0]; done)) (by first | decide | (simp; done) | (simp [ms_0]; done)) (fun _ _ _ => rfl)
  · exact sm_l sm (c23 hS) t23 (by first | decide | (simp; done) | (simp [ms_0]; done)) (by first | decide | (simp; done) | (simp [ms_0]; done)) (fun _ _ _ => rfl)
  · exact sm_i sm (c0 hS) t0 (by first | decide | (simp; done) | (simp [ms_0]; done)) (by first | decide | (simp; done) | (simp [ms_0]; done)) (fun _ _ _ => rfl)
  · exact sm_i sm (c1 hS) t1 (by first | decide | (simp; done) | (simp [ms_0]; done)) (by first | decide | (simp; done) | (simp [ms_0]; done)) (fun _ _ _ => rfl)
  · have t := q_ty hS q h1 h2
    have hq : q < n := by omega
    exact ⟨sm_i sm hq t (by first | decide | (simp; done) | (simp [ms_0]; done)) (by first | decide | (simp; done) | (simp [ms_0]; done)) (fun _ _ _ => rfl), sm_i sm hq t (by first | decide | (simp; done) | (simp [ms_0]; done)) (by first | decide | (simp; done) | (simp [ms_0]; done)) (fun _ _ _ => rfl), sm_i sm hq t (by first | decide | (simp; done) | (simp [ms_0]; done)) (by first | decide | (simp; done) | (simp [ms_0]; done)) (fun _ _ _ => rfl), sm_i sm hq t (by first | decide | (simp; done) | (simp [ms_0]; done)) (by first | decide | (simp; done) | (simp [ms_0]; done)) (fun _ _ _ => rfl), sm_l sm hq t (by first | decide | (simp; done) | (simp [ms_0]; done)) (by first | decide | (simp; done) | (simp [ms_0]; done)) (fun _ _ _ => rfl), sm_r sm hq t (by first | decide | (simp; done) | (simp [ms_0]; done)) (by first | decide | (simp; done) | (simp [ms_0]; done)) (fun _ _ _ => rfl)⟩
  · obtain ⟨g1, g2, g3⟩ := cb_rows hS hR r hr
    exact ⟨(sm_ia sm g1 g3).2, (sm_ia sm g1 g3).1.symm⟩
/-- a call of the reference leaves the class's view alone -/
theorem cB_gr (hS : h_S n SH) (hR : g_R n SH FR) (e : ∀ c, c < n → (c < 121 ∨ 176 ≤ c) → F2 c = FI c ∧ L2 c = FL c) (h : cB SH FI FL FR A) : cB SH F2 L2 FR A := by
  have h176 := hS.1
  have u : ∀ c, c < 121 → F2 c = FI c ∧ L2 c = FL c := fun c hc => e c (by omega) (Or.inl hc)
  refine cB_ag (S2 := SH) (F2 := FI) (L2 := FL) (R2 := FR) ⟨⟨(u 24 (by first | decide | (simp; done) | (simp [ms_0]; done))).2, (u 25 (by first | decide | (simp; done) | (simp [ms_0]; done))).1, rfl, rfl⟩, ⟨by rw [(u 23 (by first | decide | (simp; done) | (simp [ms_0]; done))).1], by rw [(u 23 (by first | decide | (simp; done) | (simp [ms_0]; done))).1], by rw [(u 23 (by first | decide | (simp; done) | (simp [ms_0]; done))).1], by rw [(u 23 (by first | decide | (simp; done) | (simp [ms_0]; done))).1], by rw [(u 23 (by first | decide | (simp; done) | (simp [ms_0]; done))).2], by rw [(u 23 (by first | decide | (simp; done) | (simp [ms_0]; done))).2], by rw [(u 23 (by first | decide | (simp; done) | (simp [ms_0]; done))).2]⟩, ⟨by rw [(u 0 (by first | decide | (simp; done) | (simp [ms_0]; done))).1], (u 20 (by first | decide | (simp; done) | (simp [ms_0]; done))).1, by rw [(u 1 (by first | decide | (simp; done) | (simp [ms_0]; done))).1]⟩, fun q h1 h2 => ?_, fun r _ hr => ?_⟩ h
  · rw [(u q (by omega)).1, (u q (by omega)).2]
    exact ⟨rfl, rfl, rfl, rfl, rfl, rfl⟩
  · obtain ⟨g1, g2, -⟩ := cb_rows hS hR r hr
    exact ⟨(e r g1 g2).1, rfl⟩
/-- behind run, find, where, means -/
theorem cB_kc {Q : ms_Q} (h : cB SH FI FL FR A) (k : kc FI FL FR F2 L2 R2) (hq : crx F2 L2 R2 SH 1 3 Q) : cB SH F2 L2 R2 (A.1, A.2.1, Q, A.2.2.2) := by
  obtain ⟨⟨e1, e2, e3, e4, e5, e6, e7, e8⟩, hl, -, o⟩ := h
  have a := (k 23 (by omega)).1
  have b := (k 23 (by omega)).2.1
  have rw9 : ∀ r, rw0 SH r → F2 r = FI r := fun r hr => (k r (by have := hr.2; omega)).1
  refine ⟨⟨by rw [(k 24 (by omega)).2.1]; exact e1, by rw [(k 25 (by omega)).1]; exact e2, fun j hj => ?_, by rw [a]; exact e4, by rw [a]; exact e5, by rw [b]; exact e6, by rw [a, b]; exact e7, by rw [a, b]; exact e8⟩, fun j hj => ?_, hq, ?_⟩
  · obtain ⟨r, r1, r2, r3, r4⟩ := e3 j hj
    exact ⟨r, by rw [(k 26 (by omega)).2.2]; exact r1, r2, r3, bk_fr r4 (rw9 r r4.1)⟩
  · obtain ⟨r, r1, r2, r3, r4⟩ := hl j hj
    exact ⟨r, by rw [(k 43 (by omega)).2.2]; exact r1, r2, r3, bk_fr r4 (rw9 r r4.1)⟩
  · rw [(k 0 (by omega)).1, (k 20 (by omega)).1]
    exact o
/-- a call of the class leaves the reference's view alone -/
theorem rB_gr (e : ∀ c, 121 ≤ c → c < 176 → F2 c = FI c ∧ L2 c = FL c) (es : S2 124 = SH 124) (h : rB SH FI FL A) : rB S2 F2 L2 A := by
  have sb : ∀ {B : Nat} {L : List Int32}, bk FI SH 124 B L → bk F2 S2 124 B L := fun hb => bk_ag (e 124 (by first | decide | (simp; done) | (simp [ms_0]; done)) (by first | decide | (simp; done) | (simp [ms_0]; done))).1 es hb
  obtain ⟨⟨e1, e2, e3, e4, e5, e6, e7, e8⟩, hl, hq, o⟩ := h
  have a := (e 121 (by first | decide | (simp; done) | (simp [ms_0]; done)) (by first | decide | (simp; done) | (simp [ms_0]; done))).1
  have b := (e 121 (by first | decide | (simp; done) | (simp [ms_0]; done)) (by first | decide | (simp; done) | (simp [ms_0]; done))).2
  refine ⟨⟨by rw [(e 122 (by first | decide | (simp; done) | (simp [ms_0]; done)) (by first | decide | (simp; done) | (simp [ms_0]; done))).2]; exact e1, by rw [(e 123 (by first | decide | (simp; done) | (simp [ms_0]; done)) (by first | decide | (simp; done) | (simp [ms_0]; done))).1]; exact e2, fun k hk => ?_, by rw [a]; exact e4, by rw [a]; exact e5, by rw [b]; exact e6, by rw [a, b]; exact e7, by rw [a, b]; exact e8⟩, fun k hk => ?_, rr_fr hq (fun c hc => (e c (by omega) (by omega)).1) (e 144 (by first | decide | (simp; done) | (simp [ms_0]; done)) (by first | decide | (simp; done) | (simp [ms_0]; done))).2 (by rw [a]) (by rw [a]), ?_⟩
  · obtain ⟨r1, r2, r3⟩ := e3 k hk
    exact ⟨by rw [(e 125 (by first | decide | (simp; done) | (simp [ms_0]; done)) (by first | decide | (simp; done) | (simp [ms_0]; done))).1]; exact r1, r2, sb r3⟩
  · obtain ⟨r1, r2, r3⟩ := hl k hk
    exact ⟨by rw [(e 125 (by first | decide | (simp; done) | (simp [ms_0]; done)) (by first | decide | (simp; done) | (simp [ms_0]; done))).1]; exact r1, r2, sb r3⟩
  · rw [a, (e 148 (by first | decide | (simp; done) | (simp [ms_0]; done)) (by first | decide | (simp; done) | (simp [ms_0]; done))).1]
    exact o
/-- the reference's view, behind changes elsewhere -/
theorem rB_fr (e1 : ∀ c, 121 < c → c < 149 → F2 c = FI c ∧ L2 c = FL c) (e2 : ∀ k, k ≠ 0 → F2 121 k = FI 121 k) (e3 : L2 121 = FL 121) (h : rB SH FI FL A) : rB SH F2 L2 A := by
  obtain ⟨he, hl, hq, o⟩ := h
  refine ⟨rE_f2 he (e1 123 (by first | decide | (simp; done) | (simp [ms_0]; done)) (by first | decide | (simp; done) | (simp [ms_0]; done))).1 (e1 124 (by first | decide | (simp; done) | (simp [ms_0]; done)) (by first | decide | (simp; done) | (simp [ms_0]; done))).1 (e1 125 (by first | decide | (simp; done) | (simp [ms_0]; done)) (by first | decide | (simp; done) | (simp [ms_0]; done))).1 (fun k h1 h2 => e2 k (by omega)) (fun k h1 h2 => by rw [e3]) (e1 122 (by first | decide | (simp; done) | (simp [ms_0]; done)) (by first | decide | (simp; done) | (simp [ms_0]; done))).2, fun k hk => ?_, rr_fr hq (fun c hc => (e1 c (by omega) (by omega)).1) (e1 144 (by first | decide | (simp; done) | (simp [ms_0]; done)) (by first | decide | (simp; done) | (simp [ms_0]; done))).2 (e2 46 (by first | decide | (simp; done) | (simp [ms_0]; done))) (e2 47 (by first | decide | (simp; done) | (simp [ms_0]; done))), ?_⟩
  · obtain ⟨r1, r2, r3⟩ := hl k hk
    exact ⟨by rw [(e1 125 (by first | decide | (simp; done) | (simp [ms_0]; done)) (by first | decide | (simp; done) | (simp [ms_0]; done))).1]; exact r1, r2, bk_fr r3 (e1 124 (by first | decide | (simp; done) | (simp [ms_0]; done)) (by first | decide | (simp; done) | (simp [ms_0]; done))).1⟩
  · rw [e2 61 (by first | decide | (simp; done) | (simp [ms_0]; done)), (e1 148 (by first | decide | (simp; done) | (simp [ms_0]; done)) (by first | decide | (simp; done) | (simp [ms_0]; done))).1]
    exact o
theorem rB_0 {x : Int32} (h : rB SH FI FL A) : rB SH (h_up FI 121 0 x) FL A := rB_fr (fun c h1 h2 => ⟨h_up_nc (by omega), rfl⟩) (fun k hk => h_up_ne hk) rfl h
/-- both descriptions of the reference's cells -/
theorem rb_sm (sm : h_sm base (n, sl, SH, FI, FL, FR) (n2, sl2, S2, F2, L2, R2)) (hS : h_S n SH) (h : rB S2 F2 L2 A) : rB SH FI FL A := by
  have t : (SH 121).1 = 12 := by rw [s121 hS]
  have i124 := sm_ia sm (c124 hS) (by rw [s124 hS])
  have i125 := (sm_ia sm (c125 hS) (by rw [s125 hS])).2
  have sb : ∀ {B : Nat} {L : List Int32}, bk F2 S2 124 B L → bk FI SH 124 B L := fun hb => bk_ag i124.2 i124.1.symm hb
  have f5 : FI 121 5 = F2 121 5 := sm_i sm (c121 hS) t (by first | decide | (simp; done) | (simp [ms_0]; done)) (by first | decide | (simp; done) | (simp [ms_0]; done)) (fun _ _ _ => rfl)
  have f6 : FI 121 6 = F2 121 6 := sm_i sm (c121 hS) t (by first | decide | (simp; done) | (simp [ms_0]; done)) (by first | decide | (simp; done) | (simp [ms_0]; done)) (fun _ _ _ => rfl)
  have f10 : FI 121 10 = F2 121 10 := sm_i sm (c121 hS) t (by first | decide | (simp; done) | (simp [ms_0]; done)) (by first | decide | (simp; done) | (simp [ms_0]; done)) (fun _ _ _ => rfl)
  have f11 : FI 121 11 = F2 121 11 := sm_i sm (c121 hS) t (by first | decide | (simp; done) | (simp [ms_0]; done)) (by first | decide | (simp; done) | (simp [ms_0]; done)) (fun _ _ _ => rfl)
  have f46 : FI 121 46 = F2 121 46 := sm_i sm (c121 hS) t (by first | decide | (simp; done) | (simp [ms_0]; done)) (by first | decide | (simp; done) | (simp [ms_0]; done)) (fun _ _ _ => rfl)
  have f47 : FI 121 47 = F2 121 47 := sm_i sm (c121 hS) t (by first | decide | (simp; done) | (simp [ms_0]; done)) (by first | decide | (simp; done) | (simp [ms_0]; done)) (fun _ _ _ => rfl)
  have f61 : FI 121 61 = F2 121 61 := sm_i sm (c121 hS) t (by first | decide | (simp; done) | (simp [ms_0]; done)) (by first | decide | (simp; done) | (simp [ms_0]; done)) (fun _ _ _ => rfl)
  have l7 : FL 121 7 = L2 121 7 := sm_l sm (c121 hS) t (by first | decide | (simp; done) | (simp [ms_0]; done)) (by first | decide | (simp; done) | (simp [ms_0]; done)) (fun _ _ _ => rfl)
  have l8 : FL 121 8 = L2 121 8 := sm_l sm (c121 hS) t (by first | decide | (simp; done) | (simp [ms_0]; done)) (by first | decide | (simp; done) | (simp [ms_0]; done)) (fun _ _ _ => rfl)
  have l9 : FL 121 9 = L2 121 9 := sm_l sm (c121 hS) t (by first | decide | (simp; done) | (simp [ms_0]; done)) (by first | decide | (simp; done) | (simp [ms_0]; done)) (fun _ _ _ => rfl)
  obtain ⟨⟨e1, e2, e3, e4, e5, e6, e7, e8⟩, hl, hq, o⟩ := h
  refine ⟨⟨by rw [(sm_la sm (c122 hS) (by rw [s122 hS])).2]; exact e1, by rw [(sm_ia sm (c123 hS) (by rw [s123 hS])).2]; exact e2, fun k hk => ?_, by rw [f5]; exact e4, by rw [f6]; exact e5, by rw [l7]; exact e6, by rw [f10, l8]; exact e7, by rw [f11, l9]; exact e8⟩, fun k hk => ?_, rr_fr hq (fun c hc => ?_) (sm_la sm (c144 hS) (by rw [s144 hS])).2 f46 f47, ?_⟩
  · obtain ⟨r1, r2, r3⟩ := e3 k hk
    exact ⟨by rw [i125]; exact r1, r2, sb r3⟩
  · obtain ⟨r1, r2, r3⟩ := hl k hk
    exact ⟨by rw [i125]; exact r1, r2, sb r3⟩
  · rcases hc with rfl | rfl | rfl | rfl
    · exact (sm_ia sm (c143 hS) (by rw [s143 hS])).2
    · exact (sm_ia sm (c145 hS) (by rw [s145 hS])).2
    · exact (sm_ia sm (c146 hS) (by rw [s146 hS])).2
    · exact (sm_ia sm (c147 hS) (by rw [s147 hS])).2
  · rw [f61, (sm_ia sm (c148 hS) (by rw [s148 hS])).2]
    exact o
end AB
/-! THE PLAIN CALLS. -/
def ab_ld (a1 : Int32) (a2 : Int64) (A : ab_A) : ab_A := if 0 ≤ a1.toInt ∧ a1.toInt ≤ 31 then (ms_ur A.1 a1.toInt.toNat a2, A.2) else A
def ab_po (a1 a2 : Int32) (A : ab_A) : ab_A := if 0 ≤ a1.toInt ∧ a1.toInt ≤ 4095 then (ms_um A.1 a1.toInt.toNat (a2 &&& (255 : Int32)), A.2) else A
def ms_uf (E : ms_E) (x : Int) : ms_E := (E.1, E.2.1, E.2.2.1, x, E.2.2.2.2)
def ms_uc (E : ms_E) (x : Int) (y : Int64) : ms_E := (E.1, E.2.1, E.2.2.1, E.2.2.2.1, x, y, E.2.2.2.2.2.2)
def ms_uo (E : ms_E) (x : Option Int64) : ms_E := (E.1, E.2.1, E.2.2.1, E.2.2.2.1, E.2.2.2.2.1, E.2.2.2.2.2.1, x, E.2.2.2.2.2.2.2)
def ms_ut (E : ms_E) (x : Option Int64) : ms_E := (E.1, E.2.1, E.2.2.1, E.2.2.2.1, E.2.2.2.2.1, E.2.2.2.2.2.1, E.2.2.2.2.2.2.1, x)
def ab_fr (a1 : Int32) (A : ab_A) : ab_A := if -1 ≤ a1.toInt ∧ a1.toInt ≤ 15 then (ms_uf A.1 a1.toInt, A.2) else A
def ab_cf (a1 : Int32) (a2 : Int64) (A : ab_A) : ab_A := if -1 ≤ a1.toInt ∧ a1.toInt ≤ 31 then (ms_uc A.1 a1.toInt a2, A.2) else A
def ab_se (a1 : Int32) (a2 : Int64) (a3 : Int32) (A : ab_A) : ab_A := if a1.toInt = 0 then (ms_uo A.1 (if a3.toInt = 0 then none else some a2), A.2) else if a1.toInt = 1 then (ms_ut A.1 (if a3.toInt = 0 then none else some a2), A.2) else A
def ab_rg (a1 : Int32) (A : ab_A) : Int64 := if 0 ≤ a1.toInt ∧ a1.toInt ≤ 31 then ms_rg A.1 a1.toInt.toNat else 0
def ab_pk (a1 : Int32) (A : ab_A) : Int32 := if 0 ≤ a1.toInt ∧ a1.toInt ≤ 4095 then ms_mm A.1 a1.toInt.toNat else -1
def ab_ou (a1 : Int32) (A : ab_A) : Int32 := if 0 ≤ a1.toInt ∧ a1.toInt < (A.2.2.2.1 : Int) then A.2.2.2.2 a1.toInt.toNat else -1
theorem i_255 (x : Int32) : 0 ≤ (x &&& (255 : Int32)).toInt ∧ (x &&& (255 : Int32)).toInt ≤ 255 := by
  have h := i_and (x := x) (m := (255 : Int32)) (M := 255) (by first | decide | (simp; done) | (simp [ms_0]; done)) (by first | decide | (simp; done) | (simp [ms_0]; done))
  omega
section PLC
variable {n sl : Nat} {SH : Nat → Nat × Nat} {FI : Nat → Nat → Int32} {FL : Nat → Nat → Int64} {FR : Nat → Nat → Option Nat} {A : ab_A} {s : hS} {v a1 a2 a3 : Int32} {w x : Int64}
theorem n_24 (hS : h_S n SH) : (Int32.ofNat (SH 24).2).toInt = 32 := (congrArg (fun p : Nat × Nat => (Int32.ofNat p.2).toInt) (s24 hS)).trans (by first | decide | (simp; done) | (simp [ms_0]; done))
theorem n_25 (hS : h_S n SH) : (Int32.ofNat (SH 25).2).toInt = 4096 := (congrArg (fun p : Nat × Nat => (Int32.ofNat p.2).toInt) (s25 hS)).trans (by first | decide | (simp; done) | (simp [ms_0]; done))
theorem n_26 (hS : h_S n SH) : (Int32.ofNat (SH 26).2).toInt = 16 := (congrArg (fun p : Nat × Nat => (Int32.ofNat p.2).toInt) (s26 hS)).trans (by first | decide | (simp; done) | (simp [ms_0]; done))
theorem n_43 (hS : h_S n SH) : (Int32.ofNat (SH 43).2).toInt = 4 := (congrArg (fun p : Nat × Nat => (Int32.ofNat p.2).toInt) (s43 hS)).trans (by first | decide | (simp; done) | (simp [ms_0]; done))
theorem cl_load (hS : h_S n SH) (hB : cB SH FI FL FR A) (h : RX11_load a1 x n sl SH FI FL FR v s) : ∃ F2 L2, s = (n, sl, SH, F2, L2, FR) ∧ cB SH F2 L2 FR (ab_ld a1 x A) := by
  unfold ab_ld
  rcases h with ⟨h0, -, e⟩ | ⟨h0, h⟩
  · exact ⟨FI, FL, e, by rw [if_neg (by omega)]; exact hB⟩
  · rw [n_24 hS] at h
    rcases h with ⟨h1, -, -, e⟩ | ⟨h1, -, e⟩
    · refine ⟨FI, _, e, ?_⟩
      rw [if_pos (by omega)]
      exact ⟨cE_ur hB.1, hB.2.1, crx_24 hB.2.2.1 (fun _ _ => rfl) (fun c hc => h_up_nc hc), hB.2.2.2⟩
    · exact ⟨FI, FL, e, by rw [if_neg (by omega)]; exact hB⟩
theorem rl_load (hB : rB SH FI FL A) (h : RX12_load a1 x n sl SH FI FL FR v s) : ∃ F2 L2, s = (n, sl, SH, F2, L2, FR) ∧ rB SH F2 L2 (ab_ld a1 x A) := by
  have z : ((31 : Int32)).toInt = 31 := by first | decide | (simp; done) | (simp [ms_0]; done)
  unfold ab_ld
  rcases h with ⟨h0, -, e⟩ | ⟨h0, h⟩
  · exact ⟨_, FL, e, by rw [if_neg (by omega)]; exact rB_0 hB⟩
  · rw [z] at h
    rcases h with ⟨h1, -, e⟩ | ⟨h1, -, -, e⟩
    · exact ⟨_, FL, e, by rw [if_neg (by omega)]; exact rB_0 hB⟩
    · refine ⟨_, _, e, ?_⟩
      rw [if_pos (by omega)]
      have hB := rB_0 (x := (0 : Int32)) hB
      exact ⟨rE_ur hB.1, hB.2.1, rr_fr hB.2.2.1 (fun _ _ => rfl) (h_up_nc (by first | decide | (simp; done) | (simp [ms_0]; done))) rfl rfl, hB.2.2.2⟩
theorem cl_poke (hS : h_S n SH) (hB : cB SH FI FL FR A) (h : RX11_poke a1 a2 n sl SH FI FL FR v s) : ∃ F2 L2, s = (n, sl, SH, F2, L2, FR) ∧ cB SH F2 L2 FR (ab_po a1 a2 A) := by
  unfold ab_po
  rcases h with ⟨h0, -, e⟩ | ⟨h0, h⟩
  · exact ⟨FI, FL, e, by rw [if_neg (by omega)]; exact hB⟩
  · rw [n_25 hS] at h
    rcases h with ⟨h1, -, -, e⟩ | ⟨h1, -, e⟩
    · refine ⟨_, FL, e, ?_⟩
      rw [if_pos (by omega)]
      refine ⟨cE_um hB.1 (i_255 a2), fun k hk => ?_, crx_24 hB.2.2.1 (fun c hc => h_up_nc hc) (fun _ _ => rfl), ?_⟩
      · obtain ⟨r, r1, r2, r3, r4⟩ := hB.2.1 k hk
        exact ⟨r, r1, r2, r3, bk_fr r4 (h_up_nc (by have := r4.1.2; omega))⟩
      · rw [h_up_nc (by first | decide | (simp; done) | (simp [ms_0]; done)), h_up_nc (by first | decide | (simp; done) | (simp [ms_0]; done))]
        exact hB.2.2.2
    · exact ⟨FI, FL, e, by rw [if_neg (by omega)]; exact hB⟩
theorem rl_poke (hB : rB SH FI FL A) (h : RX12_poke a1 a2 n sl SH FI FL FR v s) : ∃ F2 L2, s = (n, sl, SH, F2, L2, FR) ∧ rB SH F2 L2 (ab_po a1 a2 A) := by
  have z : ((4095 : Int32)).toInt = 4095 := by first | decide | (simp; done) | (simp [ms_0]; done)
  unfold ab_po
  rcases h with ⟨h0, -, e⟩ | ⟨h0, h⟩
  · exact ⟨_, FL, e, by rw [if_neg (by omega)]; exact rB_0 hB⟩
  · rw [z] at h
    rcases h with ⟨h1, -, e⟩ | ⟨h1, -, -, e⟩
    · exact ⟨_, FL, e, by rw [if_neg (by omega)]; exact rB_0 hB⟩
    · refine ⟨_, _, e, ?_⟩
      rw [if_pos (by omega)]
      have hB := rB_0 (x := (0 : Int32)) hB
      refine ⟨rE_um hB.1, fun k hk => ?_, rr_fr hB.2.2.1 (fun c hc => h_up_nc (by omega)) rfl ?_ ?_, ?_⟩
      · rw [h_up_nc (c2 := 125) (by first | decide | (simp; done) | (simp [ms_0]; done))]
        obtain ⟨r1, r2, r3⟩ := hB.2.1 k hk
        exact ⟨r1, r2, bk_fr r3 (h_up_nc (by first | decide | (simp; done) | (simp [ms_0]; done)))⟩
      · rw [h_up_nc (c2 := 121) (by first | decide | (simp; done) | (simp [ms_0]; done))]
      · rw [h_up_nc (c2 := 121) (by first | decide | (simp; done) | (simp [ms_0]; done))]
      · rw [h_up_nc (c2 := 121) (by first | decide | (simp; done) | (simp [ms_0]; done)), h_up_nc (c2 := 148) (by first | decide | (simp; done) | (simp [ms_0]; done))]
        exact hB.2.2.2
/-- changes of the desk's own fields in the class -/
theorem cB_23 {F2 : Nat → Nat → Int32} {L2 : Nat → Nat → Int64} {E : ms_E} (hB : cB SH FI FL FR A) (e1 : ∀ c, c ≠ 23 → F2 c = FI c) (e2 : ∀ c, c ≠ 23 → L2 c = FL c) (hE : cE F2 L2 FR SH E) : cB SH F2 L2 FR (E, A.2) := by
  refine ⟨hE, fun k hk => ?_, crx_fr hB.2.2.1 (fun r hr => e1 r (by have := hr.2; omega)) (e1 1 (by first | decide | (simp; done) | (simp [ms_0]; done))) (fun i hi => ⟨e1 (3 + i) (by omega), e2 (3 + i) (by omega), rfl⟩), ?_⟩
  · obtain ⟨r, r1, r2, r3, r4⟩ := hB.2.1 k hk
    exact ⟨r, r1, r2, r3, bk_fr r4 (e1 r (by have := r4.1.2; omega))⟩
  · rw [e1 0 (by first | decide | (simp; done) | (simp [ms_0]; done)), e1 20 (by first | decide | (simp; done) | (simp [ms_0]; done))]
    exact hB.2.2.2
/-- and in the reference -/
theorem rB_121 {F2 : Nat → Nat → Int32} {L2 : Nat → Nat → Int64} {E : ms_E} (hB : rB SH FI FL A) (e1 : ∀ c, c ≠ 121 → F2 c = FI c) (e2 : ∀ c, c ≠ 121 → L2 c = FL c) (e3 : ∀ k, (k = 46 ∨ k = 47 ∨ k = 61) → F2 121 k = FI 121 k) (hE : rE F2 L2 SH E) : rB SH F2 L2 (E, A.2) := by
  refine ⟨hE, fun k hk => ?_, rr_fr hB.2.2.1 (fun c hc => e1 c (by omega)) (e2 144 (by first | decide | (simp; done) | (simp [ms_0]; done))) (e3 46 (by first | decide | (simp; done) | (simp [ms_0]; done))) (e3 47 (by first | decide | (simp; done) | (simp [ms_0]; done))), ?_⟩
  · rw [e1 125 (by first | decide | (simp; done) | (simp [ms_0]; done))]
    obtain ⟨r1, r2, r3⟩ := hB.2.1 k hk
    exact ⟨r1, r2, bk_fr r3 (e1 124 (by first | decide | (simp; done) | (simp [ms_0]; done)))⟩
  · rw [e3 61 (by first | decide | (simp; done) | (simp [ms_0]; done)), e1 148 (by first | decide | (simp; done) | (simp [ms_0]; done))]
    exact hB.2.2.2
theorem cE_rows {F2 : Nat → Nat → Int32} {E : ms_E} (hE : cE FI FL FR SH E) (e1 : ∀ c, c ≠ 23 → F2 c = FI c) : ∀ k, k < 16 → ∃ r, FR 26 k = some r ∧ (SH r).2 = (ms_ex E k).length ∧ (ms_ex E k).length ≤ 600 ∧ bk F2 SH r 0 (ms_ex E k) := fun k hk => by
  obtain ⟨r, r1, r2, r3, r4⟩ := hE.2.2.1 k hk
  exact ⟨r, r1, r2, r3, bk_fr r4 (e1 r (by have := r4.1.2; omega))⟩
theorem cl_frame (hS : h_S n SH) (hB : cB SH FI FL FR A) (h : RX11_frame a1 n sl SH FI FL FR v s) : ∃ F2 L2, s = (n, sl, SH, F2, L2, FR) ∧ cB SH F2 L2 FR (ab_fr a1 A) := by
  have z : ((-1 : Int32)).toInt = -1 := by first | decide | (simp; done) | (simp [ms_0]; done)
  unfold ab_fr
  rcases h with ⟨h0, -, e⟩ | ⟨h0, h⟩
  · exact ⟨FI, FL, e, by rw [if_neg (by omega)]; exact hB⟩
  · rw [n_26 hS] at h
    rcases h with ⟨h1, -, e⟩ | ⟨h1, -, e⟩
    · refine ⟨_, FL, e, ?_⟩
      rw [if_pos (by omega)]
      have hr := cE_rows (F2 := h_up FI 23 4 a1) hB.1 (fun c hc => h_up_nc hc)
      obtain ⟨e1, e2, -, e4, e5, e6, e7, e8⟩ := hB.1
      refine cB_23 hB (fun c hc => h_up_nc hc) (fun _ _ => rfl) ⟨e1, by rw [h_up_nc (by first | decide | (simp; done) | (simp [ms_0]; done))]; exact e2, hr, ⟨by rw [h_up_eq]; rfl, ?_, ?_⟩, by rw [h_up_ne (by first | decide | (simp; done) | (simp [ms_0]; done))]; exact e5, e6, by rw [h_up_ne (by first | decide | (simp; done) | (simp [ms_0]; done))]; exact e7, by rw [h_up_ne (by first | decide | (simp; done) | (simp [ms_0]; done))]; exact e8⟩
      · show -1 ≤ a1.toInt
        omega
      · show a1.toInt ≤ 15
        omega
    · exact ⟨FI, FL, e, by rw [if_neg (by omega)]; exact hB⟩
theorem rE_rows {F2 : Nat → Nat → Int32} {E : ms_E} (hE : rE FI FL SH E) (e1 : ∀ c, c ≠ 121 → F2 c = FI c) : ∀ k, k < 16 → (F2 125 k).toInt = (ms_ex E k).length ∧ (ms_ex E k).length ≤ 600 ∧ bk F2 SH 124 (600 * k) (ms_ex E k) := fun k hk => by
  obtain ⟨r1, r2, r3⟩ := hE.2.2.1 k hk
  exact ⟨by rw [e1 125 (by first | decide | (simp; done) | (simp [ms_0]; done))]; exact r1, r2, bk_fr r3 (e1 124 (by first | decide | (simp; done) | (simp [ms_0]; done)))⟩
theorem rl_frame (hB : rB SH FI FL A) (h : RX12_frame a1 n sl SH FI FL FR v s) : ∃ F2 L2, s = (n, sl, SH, F2, L2, FR) ∧ rB SH F2 L2 (ab_fr a1 A) := by
  have z : ((-1 : Int32)).toInt = -1 := by first | decide | (simp; done) | (simp [ms_0]; done)
  have z2 : ((15 : Int32)).toInt = 15 := by first | decide | (simp; done) | (simp [ms_0]; done)
  unfold ab_fr
  rcases h with ⟨h0, -, e⟩ | ⟨h0, h⟩
  · exact ⟨_, FL, e, by rw [if_neg (by omega)]; exact rB_0 hB⟩
  · rw [z2] at h
    rcases h with ⟨h1, -, e⟩ | ⟨h1, -, e⟩
    · exact ⟨_, FL, e, by rw [if_neg (by omega)]; exact rB_0 hB⟩
    · refine ⟨_, _, e, ?_⟩
      rw [if_pos (by omega)]
      have hB := rB_0 (x := (0 : Int32)) hB
      have hr := rE_rows (F2 := h_up (h_up FI 121 0 ((0 : Int32))) 121 5 a1) hB.1 (fun c hc => h_up_nc hc)
      obtain ⟨e1, e2, -, e4, e5, e6, e7, e8⟩ := hB.1
      refine rB_121 hB (fun c hc => h_up_nc hc) (fun _ _ => rfl) (fun k hk => h_up_ne (by omega)) ⟨e1, by rw [h_up_nc (c2 := 123) (by first | decide | (simp; done) | (simp [ms_0]; done))]; exact e2, hr, ⟨by rw [h_up_eq]; rfl, ?_, ?_⟩, by rw [h_up_ne (k2 := 6) (by first | decide | (simp; done) | (simp [ms_0]; done))]; exact e5, e6, by rw [h_up_ne (k2 := 10) (by first | decide | (simp; done) | (simp [ms_0]; done))]; exact e7, by rw [h_up_ne (k2 := 11) (by first | decide | (simp; done) | (simp [ms_0]; done))]; exact e8⟩
      · show -1 ≤ a1.toInt
        omega
      · show a1.toInt ≤ 15
        omega
theorem cl_cfa (hS : h_S n SH) (hB : cB SH FI FL FR A) (h : RX11_cfa a1 x n sl SH FI FL FR v s) : ∃ F2 L2, s = (n, sl, SH, F2, L2, FR) ∧ cB SH F2 L2 FR (ab_cf a1 x A) := by
  have z : ((-1 : Int32)).toInt = -1 := by first | decide | (simp; done) | (simp [ms_0]; done)
  unfold ab_cf
  rcases h with ⟨h0, -, e⟩ | ⟨h0, h⟩
  · exact ⟨FI, FL, e, by rw [if_neg (by omega)]; exact hB⟩
  · rw [n_24 hS] at h
    rcases h with ⟨h1, -, e⟩ | ⟨h1, -, e⟩
    · refine ⟨_, _, e, ?_⟩
      rw [if_pos (by omega)]
      have hr := cE_rows (F2 := h_up FI 23 5 a1) hB.1 (fun c hc => h_up_nc hc)
      obtain ⟨e1, e2, -, e4, e5, e6, e7, e8⟩ := hB.1
      refine cB_23 hB (fun c hc => h_up_nc hc) (fun c hc => h_up_nc hc) ⟨by rw [h_up_nc (c2 := 24) (by first | decide | (simp; done) | (simp [ms_0]; done))]; exact e1, by rw [h_up_nc (by first | decide | (simp; done) | (simp [ms_0]; done))]; exact e2, hr, by rw [h_up_ne (by first | decide | (simp; done) | (simp [ms_0]; done))]; exact e4, ⟨by rw [h_up_eq]; rfl, ?_, ?_⟩, by rw [h_up_eq]; rfl, by rw [h_up_ne (k2 := 7) (by first | decide | (simp; done) | (simp [ms_0]; done)), h_up_ne (k2 := 8) (by first | decide | (simp; done) | (simp [ms_0]; done))]; exact e7, by rw [h_up_ne (k2 := 9) (by first | decide | (simp; done) | (simp [ms_0]; done)), h_up_ne (k2 := 10) (by first | decide | (simp; done) | (simp [ms_0]; done))]; exact e8⟩
      · show -1 ≤ a1.toInt
        omega
      · show a1.toInt ≤ 31
        omega
    · exact ⟨FI, FL, e, by rw [if_neg (by omega)]; exact hB⟩
theorem rl_cfa (hB : rB SH FI FL A) (h : RX12_cfa a1 x n sl SH FI FL FR v s) : ∃ F2 L2, s = (n, sl, SH, F2, L2, FR) ∧ rB SH F2 L2 (ab_cf a1 x A) := by
  have z : ((-1 : Int32)).toInt = -1 := by first | decide | (simp; done) | (simp [ms_0]; done)
  have z2 : ((31 : Int32)).toInt = 31 := by first | decide | (simp; done) | (simp [ms_0]; done)
  unfold ab_cf
  rcases h with ⟨h0, -, e⟩ | ⟨h0, h⟩
  · exact ⟨_, FL, e, by rw [if_neg (by omega)]; exact rB_0 hB⟩
  · rw [z2] at h
    rcases h with ⟨h1, -, e⟩ | ⟨h1, -, e⟩
    · exact ⟨_, FL, e, by rw [if_neg (by omega)]; exact rB_0 hB⟩
    · refine ⟨_, _, e, ?_⟩
      rw [if_pos (by omega)]
      have hB := rB_0 (x := (0 : Int32)) hB
      have hr := rE_rows (F2 := h_up (h_up FI 121 0 ((0 : Int32))) 121 6 a1) hB.1 (fun c hc => h_up_nc hc)
      obtain ⟨e1, e2, -, e4, e5, e6, e7, e8⟩ := hB.1
      refine rB_121 hB (fun c hc => h_up_nc hc) (fun c hc => h_up_nc hc) (fun k hk => h_up_ne (by omega)) ⟨by rw [h_up_nc (c2 := 122) (by first | decide | (simp; done) | (simp [ms_0]; done))]; exact e1, by rw [h_up_nc (c2 := 123) (by first | decide | (simp; done) | (simp [ms_0]; done))]; exact e2, hr, by rw [h_up_ne (k2 := 5) (by first | decide | (simp; done) | (simp [ms_0]; done))]; exact e4, ⟨by rw [h_up_eq]; rfl, ?_, ?_⟩, by rw [h_up_eq]; rfl, by rw [h_up_ne (k2 := 10) (by first | decide | (simp; done) | (simp [ms_0]; done)), h_up_ne (k2 := 8) (by first | decide | (simp; done) | (simp [ms_0]; done))]; exact e7, by rw [h_up_ne (k2 := 11) (by first | decide | (simp; done) | (simp [ms_0]; done)), h_up_ne (k2 := 9) (by first | decide | (simp; done) | (simp [ms_0]; done))]; exact e8⟩
      · show -1 ≤ a1.toInt
        omega
      · show a1.toInt ≤ 31
        omega
theorem op_is {a : Int32} {y : Int64} : (a.toInt = 0 ∧ (if a.toInt = 0 then none else some y) = none) ∨ (a.toInt ≠ 0 ∧ (if a.toInt = 0 then none else some y) = some y) := by
  by_cases h : a.toInt = 0
  · exact Or.inl ⟨h, if_pos h⟩
  · exact Or.inr ⟨h, if_neg h⟩
theorem cl_set (hB : cB SH FI FL FR A) (h : RX11_set a1 x a3 n sl SH FI FL FR v s) : ∃ F2 L2, s = (n, sl, SH, F2, L2, FR) ∧ cB SH F2 L2 FR (ab_se a1 x a3 A) := by
  have z : ((1 : Int32)).toInt = 1 := by first | decide | (simp; done) | (simp [ms_0]; done)
  unfold ab_se
  rcases h with ⟨h0, -, e⟩ | ⟨h0, h⟩
  · refine ⟨_, _, e, ?_⟩
    rw [if_pos h0]
    have hr := cE_rows (F2 := h_up FI 23 7 a3) hB.1 (fun c hc => h_up_nc hc)
    obtain ⟨e1, e2, -, e4, e5, e6, e7, e8⟩ := hB.1
    refine cB_23 hB (fun c hc => h_up_nc hc) (fun c hc => h_up_nc hc) ⟨by rw [h_up_nc (c2 := 24) (by first | decide | (simp; done) | (simp [ms_0]; done))]; exact e1, by rw [h_up_nc (by first | decide | (simp; done) | (simp [ms_0]; done))]; exact e2, hr, by rw [h_up_ne (k2 := 4) (by first | decide | (simp; done) | (simp [ms_0]; done))]; exact e4, by rw [h_up_ne (k2 := 5) (by first | decide | (simp; done) | (simp [ms_0]; done))]; exact e5, by rw [h_up_ne (k2 := 6) (by first | decide | (simp; done) | (simp [ms_0]; done))]; exact e6, by rw [h_up_eq, h_up_eq]; exact op_is, by rw [h_up_ne (k2 := 9) (by first | decide | (simp; done) | (simp [ms_0]; done)), h_up_ne (k2 := 10) (by first | decide | (simp; done) | (simp [ms_0]; done))]; exact e8⟩
  · rw [if_neg h0]
    rw [z] at h
    rcases h with ⟨h1, -, e⟩ | ⟨h1, -, e⟩
    · refine ⟨_, _, e, ?_⟩
      rw [if_pos h1]
      have hr := cE_rows (F2 := h_up FI 23 9 a3) hB.1 (fun c hc => h_up_nc hc)
      obtain ⟨e1, e2, -, e4, e5, e6, e7, e8⟩ := hB.1
      refine cB_23 hB (fun c hc => h_up_nc hc) (fun c hc => h_up_nc hc) ⟨by rw [h_up_nc (c2 := 24) (by first | decide | (simp; done) | (simp [ms_0]; done))]; exact e1, by rw [h_up_nc (by first | decide | (simp; done) | (simp [ms_0]; done))]; exact e2, hr, by rw [h_up_ne (k2 := 4) (by first | decide | (simp; done) | (simp [ms_0]; done))]; exact e4, by rw [h_up_ne (k2 := 5) (by first | decide | (simp; done) | (simp [ms_0]; done))]; exact e5, by rw [h_up_ne (k2 := 6) (by first | decide | (simp; done) | (simp [ms_0]; done))]; exact e6, by rw [h_up_ne (k2 := 7) (by first | decide | (simp; done) | (simp [ms_0]; done)), h_up_ne (k2 := 8) (by first | decide | (simp; done) | (simp [ms_0]; done))]; exact e7, by rw [h_up_eq, h_up_eq]; exact op_is⟩
    · exact ⟨FI, FL, e, by rw [if_neg h1]; exact hB⟩
theorem rl_set (hB : rB SH FI FL A) (h : RX12_set a1 x a3 n sl SH FI FL FR v s) : ∃ F2 L2, s = (n, sl, SH, F2, L2, FR) ∧ rB SH F2 L2 (ab_se a1 x a3 A) := by
  have z : ((1 : Int32)).toInt = 1 := by first | decide | (simp; done) | (simp [ms_0]; done)
  unfold ab_se
  rcases h with ⟨h0, -, e⟩ | ⟨h0, h⟩
  · exact ⟨_, FL, e, by rw [if_neg (by omega), if_neg (by omega)]; exact rB_0 hB⟩
  · rw [z] at h
    rcases h with ⟨h1, -, e⟩ | ⟨h1, h⟩
    · exact ⟨_, FL, e, by rw [if_neg (by omega), if_neg (by omega)]; exact rB_0 hB⟩
    · have hB := rB_0 (x := (0 : Int32)) hB
      rcases h with ⟨h2, -, e⟩ | ⟨h2, -, e⟩
      · refine ⟨_, _, e, ?_⟩
        rw [if_pos h2]
        have hr := rE_rows (F2 := h_up (h_up FI 121 0 ((0 : Int32))) 121 10 a3) hB.1 (fun c hc => h_up_nc hc)
        obtain ⟨e1, e2, -, e4, e5, e6, e7, e8⟩ := hB.1
        refine rB_121 hB (fun c hc => h_up_nc hc) (fun c hc => h_up_nc hc) (fun k hk => h_up_ne (by omega)) ⟨by rw [h_up_nc (c2 := 122) (by first | decide | (simp; done) | (simp [ms_0]; done))]; exact e1, by rw [h_up_nc (c2 := 123) (by first | decide | (simp; done) | (simp [ms_0]; done))]; exact e2, hr, by rw [h_up_ne (k2 := 5) (by first | decide | (simp; done) | (simp [ms_0]; done))]; exact e4, by rw [h_up_ne (k2 := 6) (by first | decide | (simp; done) | (simp [ms_0]; done))]; exact e5, by rw [h_up_ne (k2 := 7) (by first | decide | (simp; done) | (simp [ms_0]; done))]; exact e6, by rw [h_up_eq, h_up_eq]; exact op_is, by rw [h_up_ne (k2 := 11) (by first | decide | (simp; done) | (simp [ms_0]; done)), h_up_ne (k2 := 9) (by first | decide | (simp; done) | (simp [ms_0]; done))]; exact e8⟩
      · refine ⟨_, _, e, ?_⟩
        rw [if_neg h2, if_pos (by omega)]
        have hr := rE_rows (F2 := h_up (h_up FI 121 0 ((0 : Int32))) 121 11 a3) hB.1 (fun c hc => h_up_nc hc)
        obtain ⟨e1, e2, -, e4, e5, e6, e7, e8⟩ := hB.1
        refine rB_121 hB (fun c hc => h_up_nc hc) (fun c hc => h_up_nc hc) (fun k hk => h_up_ne (by omega)) ⟨by rw [h_up_nc (c2 := 122) (by first | decide | (simp; done) | (simp [ms_0]; done))]; exact e1, by rw [h_up_nc (c2 := 123) (by first | decide | (simp; done) | (simp [ms_0]; done))]; exact e2, hr, by rw [h_up_ne (k2 := 5) (by first | decide | (simp; done) | (simp [ms_0]; done))]; exact e4, by rw [h_up_ne (k2 := 6) (by first | decide | (simp; done) | (simp [ms_0]; done))]; exact e5, by rw [h_up_ne (k2 := 7) (by first | decide | (simp; done) | (simp [ms_0]; done))]; exact e6, by rw [h_up_ne (k2 := 10) (by first | decide | (simp; done) | (simp [ms_0]; done)), h_up_ne (k2 := 8) (by first | decide | (simp; done) | (simp [ms_0]; done))]; exact e7, by rw [h_up_eq, h_up_eq]; exact op_is⟩
theorem cl_register (hS : h_S n SH) (hB : cB SH FI FL FR A) : fX11_register a1 SH FI FL FR = ab_rg a1 A := by
  have q : (a1.toInt64).toInt = a1.toInt := i_2l rfl
  have q2 : ((Int32.ofNat (SH 24).2).toInt64).toInt = 32 := i_2l (n_24 hS)
  have z : ((0 : Int64)).toInt = 0 := by first | decide | (simp; done) | (simp [ms_0]; done)
  unfold fX11_register fX1_registerValue ab_rg
  rw [q, q2, z]
  by_cases h0 : a1.toInt < 0
  · rw [if_pos h0, if_neg (by omega)]
  · rw [if_neg h0]
    by_cases h1 : a1.toInt < 32
    · rw [if_pos h1, if_pos (by omega), l_2i q (by omega) (by omega)]
      exact hB.1.1 _ (by omega)
    · rw [if_neg h1, if_neg (by omega)]
theorem rl_register (hB : rB SH FI FL A) (h : RX12_register a1 n sl SH FI FL FR w s) : w = ab_rg a1 A ∧ ∃ F2 L2, s = (n, sl, SH, F2, L2, FR) ∧ rB SH F2 L2 A := by
  have z : ((31 : Int32)).toInt = 31 := by first | decide | (simp; done) | (simp [ms_0]; done)
  unfold ab_rg
  rcases h with ⟨h0, e1, e⟩ | ⟨h0, h⟩
  · exact ⟨by rw [if_neg (by omega)]; exact e1, _, FL, e, rB_0 hB⟩
  · rw [z] at h
    rcases h with ⟨h1, e1, e⟩ | ⟨h1, -, e1, e⟩
    · exact ⟨by rw [if_neg (by omega)]; exact e1, _, FL, e, rB_0 hB⟩
    · exact ⟨by rw [if_pos (by omega), e1]; exact hB.1.1 _ (by omega), _, FL, e, rB_0 hB⟩
theorem cl_peek (hS : h_S n SH) (hB : cB SH FI FL FR A) : fX11_peek a1 SH FI FL FR = ab_pk a1 A := by
  unfold fX11_peek ab_pk
  rw [n_25 hS]
  by_cases h0 : a1.toInt < 0
  · rw [if_pos h0, if_neg (by omega)]
  · rw [if_neg h0]
    by_cases h1 : a1.toInt < 4096
    · rw [if_pos h1, if_pos (by omega)]
      exact (hB.1.2.1 _ (by omega)).1
    · rw [if_neg h1, if_neg (by omega)]
theorem rl_peek (hB : rB SH FI FL A) (h : RX12_peek a1 n sl SH FI FL FR v s) : v = ab_pk a1 A ∧ ∃ F2 L2, s = (n, sl, SH, F2, L2, FR) ∧ rB SH F2 L2 A := by
  have z : ((4095 : Int32)).toInt = 4095 := by first | decide | (simp; done) | (simp [ms_0]; done)
  unfold ab_pk
  rcases h with ⟨h0, e1, e⟩ | ⟨h0, h⟩
  · exact ⟨by rw [if_neg (by omega)]; exact e1, _, FL, e, rB_0 hB⟩
  · rw [z] at h
    rcases h with ⟨h1, e1, e⟩ | ⟨h1, -, e1, e⟩
    · exact ⟨by rw [if_neg (by omega)]; exact e1, _, FL, e, rB_0 hB⟩
    · exact ⟨by rw [if_pos (by omega), e1]; exact hB.1.2.1 _ (by omega), _, FL, e, rB_0 hB⟩
theorem cl_out (hB : cB SH FI FL FR A) : fX11_out a1 SH FI FL FR = ab_ou a1 A := by
  obtain ⟨o1, o2, o3⟩ := hB.2.2.2
  unfold fX11_out ab_ou
  rw [o1]
  by_cases h0 : a1.toInt < 0
  · rw [if_pos h0, if_neg (by omega)]
  · rw [if_neg h0]
    by_cases h1 : a1.toInt < (A.2.2.2.1 : Int)
    · rw [if_pos h1, if_pos ⟨by omega, h1⟩]
      exact o3 _ (by omega)
    · rw [if_neg h1, if_neg (by omega)]
theorem rl_out (hB : rB SH FI FL A) (h : RX12_out a1 n sl SH FI FL FR v s) : v = ab_ou a1 A ∧ ∃ F2 L2, s = (n, sl, SH, F2, L2, FR) ∧ rB SH F2 L2 A := by
  obtain ⟨o1, o2, o3⟩ := hB.2.2.2
  unfold ab_ou
  rcases h with ⟨h0, e1, e⟩ | ⟨h0, h⟩
  · exact ⟨by rw [if_neg (by omega)]; exact e1, _, FL, e, rB_0 hB⟩
  · rw [o1] at h
    rcases h with ⟨h1, -, e1, e⟩ | ⟨h1, e1, e⟩
    · exact ⟨by rw [if_pos ⟨by omega, h1⟩, e1]; exact o3 _ (by omega), _, FL, e, rB_0 hB⟩
    · exact ⟨by rw [if_neg (by omega)]; exact e1, _, FL, e, rB_0 hB⟩
theorem cl_parts (hB : cB SH FI FL FR A) : (fX11_parts SH FI FL FR).toInt = (A.2.2.1.2.length : Int) := crx_n hB.2.2.1
theorem rl_parts (hB : rB SH FI FL A) (h : RX12_parts n sl SH FI FL FR v s) : v.toInt = (A.2.2.1.2.length : Int) ∧ ∃ F2 L2, s = (n, sl, SH, F2, L2, FR) ∧ rB SH F2 L2 A := by
  obtain ⟨e1, e⟩ := h
  exact ⟨by rw [e1]; exact hB.2.2.1.1, _, FL, e, rB_0 hB⟩
end PLC
