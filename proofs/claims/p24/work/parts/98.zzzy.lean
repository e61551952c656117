/-! THE LAW: what holds between two calls, for all calls. -/
/-- a call of the class leaves the reference's cells alone -/
def g_KR (FI : Nat → Nat → Int32) (FL : Nat → Nat → Int64) (F2 : Nat → Nat → Int32) (L2 : Nat → Nat → Int64) : Prop := ∀ c, 121 ≤ c → c < 176 → F2 c = FI c ∧ L2 c = FL c
/-- and, but for compile, the variables -/
def g_KD (n : Nat) (SH : Nat → Nat × Nat) (FI : Nat → Nat → Int32) (FL : Nat → Nat → Int64) (FR : Nat → Nat → Option Nat) (n2 : Nat) (S2 : Nat → Nat × Nat) (F2 : Nat → Nat → Int32) (L2 : Nat → Nat → Int64) (R2 : Nat → Nat → Option Nat) : Prop := g_ex n SH n2 S2 ∧ F2 0 12 = FI 0 12 ∧ R2 0 11 = FR 0 11 ∧ ∀ c k, 176 ≤ c → c < n → F2 c k = FI c k ∧ L2 c k = FL c k ∧ R2 c k = FR c k
/-- a call of the reference leaves the class's cells alone -/
def g_KC (n : Nat) (FI : Nat → Nat → Int32) (FL : Nat → Nat → Int64) (F2 : Nat → Nat → Int32) (L2 : Nat → Nat → Int64) : Prop := ∀ c, c < n → (c < 121 ∨ 176 ≤ c) → F2 c = FI c ∧ L2 c = FL c
def g_GG (n : Nat) (SH : Nat → Nat × Nat) (FI : Nat → Nat → Int32) (FL : Nat → Nat → Int64) (FR : Nat → Nat → Option Nat) : Prop := ∃ (A : ab_A) (V : List lp_V) (K W : Nat → Int) (P : Nat → Nat) (T f : Nat), cB SH FI FL FR A ∧ rB SH FI FL A ∧ v_any FI FR SH n V ∧ (V = [] ∨ v_cm FI FL FR SH n V) ∧ u_vw FI FL K W T V ∧ (V = [] ∨ (tk_ok K W P T ∧ lp_in K W f T V)) ∧ v_bt V
section GF
variable {n n2 : Nat} {SH S2 : Nat → Nat × Nat} {FI F2 : Nat → Nat → Int32} {FL L2 : Nat → Nat → Int64} {FR R2 : Nat → Nat → Option Nat} {A : ab_A}
theorem kr_cls {L1 L3 : List (Nat × Nat)} {A1 T1 A3 T3 : List Nat} (hS : h_S n SH) (f1 : g_fr n (shd SH) L1 A1 T1 FI F2) (f2 : g_fr n (shd SH) L3 A3 T3 FL L2) (m1 : g_cls L1 A1 T1 = true) (m2 : g_cls L3 A3 T3 = true) : g_KR FI FL F2 L2 := fun c h1 h2 => ⟨funext fun k => g_cls_at f1 m1 hS.1 h1 h2, funext fun k => g_cls_at f2 m2 hS.1 h1 h2⟩
theorem kd_cls {L1 L3 L4 : List (Nat × Nat)} {A1 T1 A3 T3 A4 T4 : List Nat} (h : g_INV n SH FI FL FR) (ex : g_ex n SH n2 S2) (f1 : g_fr n (shd SH) L1 A1 T1 FI F2) (f2 : g_fr n (shd SH) L3 A3 T3 FL L2) (f3 : g_fr n (shd SH) L4 A4 T4 FR R2) (d1 : uv_d L1 A1 T1 = true) (d2 : uv_d L3 A3 T3 = true) (d3 : uv_d L4 A4 T4 = true) (z1 : (L1.contains (0, 12) || A1.contains 0 || T1.contains 11) = false) (z3 : (L4.contains (0, 11) || A4.contains 0 || T4.contains 11) = false) : g_KD n SH FI FL FR n2 S2 F2 L2 R2 := ⟨ex, gf_at f1 (c0 h.1) (shd_f (by first | decide | (simp; done) | (simp [ms_0]; done)) (s0 h.1)) z1 rfl, gf_at f3 (c0 h.1) (shd_f (by first | decide | (simp; done) | (simp [ms_0]; done)) (s0 h.1)) z3 rfl, fun c k h1 h2 => ⟨uv_d_at f1 d1 c k h1 h2, uv_d_at f2 d2 c k h1 h2, uv_d_at f3 d3 c k h1 h2⟩⟩
def kc_m (L : List (Nat × Nat)) (A : List Nat) : Bool := L.all (fun p => decide (121 ≤ p.1 ∧ p.1 < 176)) && A.all (fun q => decide (121 ≤ q ∧ q < 176))
theorem kc_at {α : Type} {F G : Nat → Nat → α} {L : List (Nat × Nat)} {A : List Nat} (f : g_fr n SH L A [] F G) (m : kc_m L A = true) : ∀ c, c < n → (c < 121 ∨ 176 ≤ c) → G c = F c := by
  unfold kc_m at m
  rw [Bool.and_eq_true] at m
  intro c hc h1
  funext k
  refine f c k hc (fun h => ?_) (fun h => ?_) (by simp)
  · have := of_decide_eq_true (List.all_eq_true.mp m.1 (c, k) h)
    (try dsimp only at this)
    omega
  · have := of_decide_eq_true (List.all_eq_true.mp m.2 c h)
    omega
theorem kc_ref {L1 L3 : List (Nat × Nat)} {A1 A3 : List Nat} (f1 : g_fr n SH L1 A1 [] FI F2) (f2 : g_fr n SH L3 A3 [] FL L2) (m1 : kc_m L1 A1 = true) (m2 : kc_m L3 A3 = true) : g_KC n FI FL F2 L2 := fun c hc h1 => ⟨kc_at f1 m1 c hc h1, kc_at f2 m2 c hc h1⟩
/-- calls that leave the class's view alone -/
theorem cB_lt (hS : h_S n SH) (hR : g_R n SH FR) (e1 : ∀ c, c < n → c ≠ 0 → c ≠ 19 → c ≠ 21 → ¬ (110 ≤ c ∧ c ≤ 120) → F2 c = FI c ∧ L2 c = FL c ∧ R2 c = FR c) (e0 : F2 0 10 = FI 0 10) (es : ∀ c, c < n → S2 c = SH c) (h : cB SH FI FL FR A) : cB S2 F2 L2 R2 A := by
  have h176 := hS.1
  have u : ∀ c, c < 48 → c ≠ 0 → c ≠ 19 → c ≠ 21 → F2 c = FI c ∧ L2 c = FL c ∧ R2 c = FR c := fun c h1 h2 h3 h4 => e1 c (by omega) h2 h3 h4 (by omega)
  have a := u 23 (by first | decide | (simp; done) | (simp [ms_0]; done)) (by first | decide | (simp; done) | (simp [ms_0]; done)) (by first | decide | (simp; done) | (simp [ms_0]; done)) (by first | decide | (simp; done) | (simp [ms_0]; done))
  refine cB_ag (S2 := SH) (F2 := FI) (L2 := FL) (R2 := FR) ⟨⟨(u 24 (by first | decide | (simp; done) | (simp [ms_0]; done)) (by first | decide | (simp; done) | (simp [ms_0]; done)) (by first | decide | (simp; done) | (simp [ms_0]; done)) (by first | decide | (simp; done) | (simp [ms_0]; done))).2.1, (u 25 (by first | decide | (simp; done) | (simp [ms_0]; done)) (by first | decide | (simp; done) | (simp [ms_0]; done)) (by first | decide | (simp; done) | (simp [ms_0]; done)) (by first | decide | (simp; done) | (simp [ms_0]; done))).1, (u 26 (by first | decide | (simp; done) | (simp [ms_0]; done)) (by first | decide | (simp; done) | (simp [ms_0]; done)) (by first | decide | (simp; done) | (simp [ms_0]; done)) (by first | decide | (simp; done) | (simp [ms_0]; done))).2.2, (u 43 (by first | decide | (simp; done) | (simp [ms_0]; done)) (by first | decide | (simp; done) | (simp [ms_0]; done)) (by first | decide | (simp; done) | (simp [ms_0]; done)) (by first | decide | (simp; done) | (simp [ms_0]; done))).2.2⟩, ⟨by rw [a.1], by rw [a.1], by rw [a.1], by rw [a.1], by rw [a.2.1], by rw [a.2.1], by rw [a.2.1]⟩, ⟨e0, (u 20 (by first | decide | (simp; done) | (simp [ms_0]; done)) (by first | decide | (simp; done) | (simp [ms_0]; done)) (by first | decide | (simp; done) | (simp [ms_0]; done)) (by first | decide | (simp; done) | (simp [ms_0]; done))).1, by rw [(u 1 (by first | decide | (simp; done) | (simp [ms_0]; done)) (by first | decide | (simp; done) | (simp [ms_0]; done)) (by first | decide | (simp; done) | (simp [ms_0]; done)) (by first | decide | (simp; done) | (simp [ms_0]; done))).1]⟩, fun q h1 h2 => ?_, fun r h9 hr => ?_⟩ h
  · have b := u q (by omega) (by omega) (by omega) (by omega)
    rw [b.1, b.2.1, b.2.2]
    exact ⟨rfl, rfl, rfl, rfl, rfl, rfl⟩
  · have hr2 : (∃ k, FR 26 k = some r) ∨ (∃ k, FR 43 k = some r) ∨ (∃ q, 3 ≤ q ∧ q < 19 ∧ FR q 4 = some r) := by
      rcases hr with ⟨k, hk⟩ | ⟨k, hk⟩ | ⟨q, q1, q2, hk⟩
      · exact Or.inl ⟨k, by rw [← (u 26 (by first | decide | (simp; done) | (simp [ms_0]; done)) (by first | decide | (simp; done) | (simp [ms_0]; done)) (by first | decide | (simp; done) | (simp [ms_0]; done)) (by first | decide | (simp; done) | (simp [ms_0]; done))).2.2]; exact hk⟩
      · exact Or.inr (Or.inl ⟨k, by rw [← (u 43 (by first | decide | (simp; done) | (simp [ms_0]; done)) (by first | decide | (simp; done) | (simp [ms_0]; done)) (by first | decide | (simp; done) | (simp [ms_0]; done)) (by first | decide | (simp; done) | (simp [ms_0]; done))).2.2]; exact hk⟩)
      · exact Or.inr (Or.inr ⟨q, q1, q2, by rw [← (u q (by omega) (by omega) (by omega) (by omega)).2.2]; exact hk⟩)
    obtain ⟨g1, g2, g3⟩ := cb_rows hS hR r hr2
    exact ⟨(e1 r g1 (by omega) (by omega) (by omega) (by omega)).1, es r g1⟩
def cp_m (L : List (Nat × Nat)) (A T : List Nat) : Bool := L.all (fun p => decide ((p.1 = 0 ∧ p.2 ≠ 10) ∨ p.1 = 19 ∨ p.1 = 21)) && (A.all (fun q => decide (q = 19 ∨ q = 21)) && T.isEmpty)
theorem cp_at {α : Type} {F G : Nat → Nat → α} {L : List (Nat × Nat)} {A T : List Nat} (f : g_fr n (shd SH) L A T F G) (m : cp_m L A T = true) : (∀ c, c < n → c ≠ 0 → c ≠ 19 → c ≠ 21 → G c = F c) ∧ (0 < n → G 0 10 = F 0 10) := by
  unfold cp_m at m
  rw [Bool.and_eq_true, Bool.and_eq_true] at m
  obtain ⟨m1, m2, m3⟩ := m
  have hT : T = [] := List.isEmpty_iff.mp m3
  subst hT
  refine ⟨fun c hc h0 h19 h21 => funext fun k => f c k hc (fun h => ?_) (fun h => ?_) (by simp), fun hn => f 0 10 hn (fun h => ?_) (fun h => ?_) (by simp)⟩
  · have := of_decide_eq_true (List.all_eq_true.mp m1 (c, k) h)
    (try dsimp only at this)
    omega
  · have := of_decide_eq_true (List.all_eq_true.mp m2 c h)
    omega
  · have := of_decide_eq_true (List.all_eq_true.mp m1 (0, 10) h)
    (try dsimp only at this)
    omega
  · have := of_decide_eq_true (List.all_eq_true.mp m2 0 h)
    omega
theorem cp_cls {L1 L3 L4 : List (Nat × Nat)} {A1 T1 A3 T3 A4 T4 : List Nat} (h : g_INV n SH FI FL FR) (f1 : g_fr n (shd SH) L1 A1 T1 FI F2) (f2 : g_fr n (shd SH) L3 A3 T3 FL L2) (f3 : g_fr n (shd SH) L4 A4 T4 FR R2) (m1 : cp_m L1 A1 T1 = true) (m2 : cp_m L3 A3 T3 = true) (m3 : cp_m L4 A4 T4 = true) : ∀ A, cB SH FI FL FR A → cB SH F2 L2 R2 A := fun A hA => cB_lt h.1 h.2.2.2.1 (fun c h1 h2 h3 h4 _ => ⟨(cp_at f1 m1).1 c h1 h2 h3 h4, (cp_at f2 m2).1 c h1 h2 h3 h4, (cp_at f3 m3).1 c h1 h2 h3 h4⟩) ((cp_at f1 m1).2 (c0 h.1)) (fun _ _ => rfl) hA
/-- calls that leave the reference's view alone -/
def rp_m (L : List (Nat × Nat)) (A : List Nat) : Bool := L.all (fun p => decide (p.1 = 121 ∧ ¬ ((5 ≤ p.2 ∧ p.2 ≤ 11) ∨ p.2 = 46 ∨ p.2 = 47 ∨ p.2 = 61))) && A.all (fun q => decide (q = 126 ∨ 148 < q))
theorem rp_af {α : Type} {F G : Nat → Nat → α} {L : List (Nat × Nat)} {A : List Nat} (f : g_fr n SH L A [] F G) (m : rp_m L A = true) : (∀ c, c < n → 121 < c → c ≤ 148 → c ≠ 126 → G c = F c) ∧ (∀ k, 121 < n → ((5 ≤ k ∧ k ≤ 11) ∨ k = 46 ∨ k = 47 ∨ k = 61) → G 121 k = F 121 k) := by
  unfold rp_m at m
  rw [Bool.and_eq_true] at m
  refine ⟨fun c hc h1 h2 h3 => funext fun k => f c k hc (fun h => ?_) (fun h => ?_) (by simp), fun k hn hk => f 121 k hn (fun h => ?_) (fun h => ?_) (by simp)⟩
  · have := of_decide_eq_true (List.all_eq_true.mp m.1 (c, k) h)
    (try dsimp only at this)
    omega
  · have := of_decide_eq_true (List.all_eq_true.mp m.2 c h)
    omega
  · have := of_decide_eq_true (List.all_eq_true.mp m.1 (121, k) h)
    exact this.2 hk
  · have := of_decide_eq_true (List.all_eq_true.mp m.2 121 h)
    omega
theorem rp_ref {L1 L3 : List (Nat × Nat)} {A1 A3 : List Nat} (hS : h_S n SH) (f1 : g_fr n SH L1 A1 [] FI F2) (f2 : g_fr n SH L3 A3 [] FL L2) (m1 : rp_m L1 A1 = true) (m2 : rp_m L3 A3 = true) : ∀ A, rB SH FI FL A → rB SH F2 L2 A := by
  have h176 := hS.1
  intro A hA
  refine rB_ck ⟨fun c hc => ⟨(rp_af f1 m1).1 c (by omega) (by omega) (by omega) (by omega), (rp_af f2 m2).1 c (by omega) (by omega) (by omega) (by omega)⟩, fun k hk => ⟨(rp_af f1 m1).2 k (by omega) hk, (rp_af f2 m2).2 k (by omega) hk⟩, fun k _ => by rw [(rp_af f1 m1).1 124 (by omega) (by omega) (by omega) (by omega)], fun k _ => by rw [(rp_af f1 m1).1 125 (by omega) (by omega) (by omega) (by omega)]⟩ hA
end GF
/-! TWO CALLS TOGETHER. -/
section GT
variable {n n1 : Nat} {SH SH1 : Nat → Nat × Nat} {FI FI1 FI2 : Nat → Nat → Int32} {FL FL1 FL2 : Nat → Nat → Int64} {FR FR1 : Nat → Nat → Option Nat}
theorem gg_r {A : ab_A} (h : g_INV n SH FI FL FR) (hm : g_INV n1 SH1 FI1 FL1 FR1) (kr : g_KR FI FL FI1 FL1) (hA : rB SH FI FL A) : rB SH1 FI1 FL1 A := rB_gr kr ((s124 hm.1).trans (s124 h.1).symm) hA
theorem gg_u {K W : Nat → Int} {T : Nat} {V : List lp_V} (kr : g_KR FI FL FI1 FL1) (hu : u_vw FI FL K W T V) : u_vw FI1 FL1 K W T V := u_vw_e hu ⟨(kr 156 (by first | decide | (simp; done) | (simp [ms_0]; done)) (by first | decide | (simp; done) | (simp [ms_0]; done))).1, (kr 157 (by first | decide | (simp; done) | (simp [ms_0]; done)) (by first | decide | (simp; done) | (simp [ms_0]; done))).1, (kr 152 (by first | decide | (simp; done) | (simp [ms_0]; done)) (by first | decide | (simp; done) | (simp [ms_0]; done))).1, (kr 153 (by first | decide | (simp; done) | (simp [ms_0]; done)) (by first | decide | (simp; done) | (simp [ms_0]; done))).2, (kr 155 (by first | decide | (simp; done) | (simp [ms_0]; done)) (by first | decide | (simp; done) | (simp [ms_0]; done))).2, by rw [(kr 121 (by first | decide | (simp; done) | (simp [ms_0]; done)) (by first | decide | (simp; done) | (simp [ms_0]; done))).1]⟩ (fun k _ => by rw [(kr 124 (by first | decide | (simp; done) | (simp [ms_0]; done)) (by first | decide | (simp; done) | (simp [ms_0]; done))).1]) (fun k _ => by rw [(kr 125 (by first | decide | (simp; done) | (simp [ms_0]; done)) (by first | decide | (simp; done) | (simp [ms_0]; done))).1])
theorem gg_v {V : List lp_V} (h : g_INV n SH FI FL FR) (kd : g_KD n SH FI FL FR n1 SH1 FI1 FL1 FR1) (v1 : v_any FI FR SH n V) : v_any FI1 FR1 SH1 n1 V := v_any_fr h.2.2.2.2.1 kd.1 kd.2.1 kd.2.2.1 (fun c k h1 h2 => (kd.2.2.2 c k h1 h2).1) (fun c k h1 h2 => (kd.2.2.2 c k h1 h2).2.2) v1
theorem gg_m {V : List lp_V} (h : g_INV n SH FI FL FR) (kd : g_KD n SH FI FL FR n1 SH1 FI1 FL1 FR1) (v2 : V = [] ∨ v_cm FI FL FR SH n V) : V = [] ∨ v_cm FI1 FL1 FR1 SH1 n1 V := by
  rcases v2 with v2 | v2
  · exact Or.inl v2
  · exact Or.inr (v_cm_ty (ty_eq kd.2.2.2 kd.1.2) h.1 h.2.2.2.1 kd.2.2.1 kd.1.1 v2)
theorem kd_kc (hS : h_S n SH) (kc : g_KC n FI FL FI1 FL1) : g_KD n SH FI FL FR n SH FI1 FL1 FR := ⟨ex_rf, by rw [(kc 0 (c0 hS) (Or.inl (by first | decide | (simp; done) | (simp [ms_0]; done)))).1], rfl, fun c k h1 h2 => ⟨by rw [(kc c h2 (Or.inr h1)).1], by rw [(kc c h2 (Or.inr h1)).2], rfl⟩⟩
/-- all together -/
theorem gg_step {A2 : ab_A} {V : List lp_V} {K W : Nat → Int} {P : Nat → Nat} {T f : Nat} (h : g_INV n SH FI FL FR) (hm : g_INV n1 SH1 FI1 FL1 FR1) (kr : g_KR FI FL FI1 FL1) (kd : g_KD n SH FI FL FR n1 SH1 FI1 FL1 FR1) (kc : g_KC n1 FI1 FL1 FI2 FL2) (ku : ∀ K W T V, u_vw FI1 FL1 K W T V → u_vw FI2 FL2 K W T V) (c1 : cB SH1 FI1 FL1 FR1 A2) (r2 : rB SH1 FI2 FL2 A2) (v1 : v_any FI FR SH n V) (v2 : V = [] ∨ v_cm FI FL FR SH n V) (v3 : u_vw FI FL K W T V) (v4 : V = [] ∨ (tk_ok K W P T ∧ lp_in K W f T V)) (v5 : v_bt V) : g_GG n1 SH1 FI2 FL2 FR1 :=
  ⟨A2, V, K, W, P, T, f, cB_gr hm.1 hm.2.2.2.1 kc c1, r2, gg_v hm (kd_kc hm.1 kc) (gg_v h kd v1), gg_m hm (kd_kc hm.1 kc) (gg_m h kd v2), ku K W T V (gg_u kr v3), v4, v5⟩
/-- a call that does to both what g says -/
theorem gg_f {g : ab_A → ab_A} (h : g_INV n SH FI FL FR) (hm : g_INV n1 SH1 FI1 FL1 FR1) (hu : g_GG n SH FI FL FR) (kr : g_KR FI FL FI1 FL1) (kd : g_KD n SH FI FL FR n1 SH1 FI1 FL1 FR1) (kx : ∀ A, cB SH FI FL FR A → cB SH1 FI1 FL1 FR1 (g A)) (kc : g_KC n1 FI1 FL1 FI2 FL2) (ku : ∀ K W T V, u_vw FI1 FL1 K W T V → u_vw FI2 FL2 K W T V) (rx : ∀ A, rB SH1 FI1 FL1 A → rB SH1 FI2 FL2 (g A)) : g_GG n1 SH1 FI2 FL2 FR1 := by
  obtain ⟨A, V, K, W, P, T, f, x1, x2, x3, x4, x5, x6, x7⟩ := hu
  exact gg_step h hm kr kd kc ku (kx A x1) (rx A (gg_r h hm kr x2)) x3 x4 x5 x6 x7
/-- a call that asks -/
theorem gg_a {ρ : Type} {φ : ab_A → ρ → Prop} {r r2 : ρ} (h : g_INV n SH FI FL FR) (hm : g_INV n1 SH1 FI1 FL1 FR1) (hu : g_GG n SH FI FL FR) (kr : g_KR FI FL FI1 FL1) (kd : g_KD n SH FI FL FR n1 SH1 FI1 FL1 FR1) (kx : ∀ A, cB SH FI FL FR A → cB SH1 FI1 FL1 FR1 A ∧ φ A r) (kc : g_KC n1 FI1 FL1 FI2 FL2) (ku : ∀ K W T V, u_vw FI1 FL1 K W T V → u_vw FI2 FL2 K W T V) (rx : ∀ A, rB SH1 FI1 FL1 A → rB SH1 FI2 FL2 A ∧ φ A r2) : g_GG n1 SH1 FI2 FL2 FR1 ∧ ∃ A, φ A r ∧ φ A r2 := by
  obtain ⟨A, V, K, W, P, T, f, x1, x2, x3, x4, x5, x6, x7⟩ := hu
  exact ⟨gg_step h hm kr kd kc ku (kx A x1).1 (rx A (gg_r h hm kr x2)).1 x3 x4 x5 x6 x7, A, (kx A x1).2, (rx A (gg_r h hm kr x2)).2⟩
/-- a call that does and answers -/
theorem gg_s {st : ab_A → Int32 → ab_A → Prop} {r r2 : Int32} (h : g_INV n SH FI FL FR) (hm : g_INV n1 SH1 FI1 FL1 FR1) (hu : g_GG n SH FI FL FR) (kr : g_KR FI FL FI1 FL1) (kd : g_KD n SH FI FL FR n1 SH1 FI1 FL1 FR1) (kx : ∀ A, cB SH FI FL FR A → ∃ A2, st A r A2 ∧ cB SH1 FI1 FL1 FR1 A2) (kc : g_KC n1 FI1 FL1 FI2 FL2) (ku : ∀ K W T V, u_vw FI1 FL1 K W T V → u_vw FI2 FL2 K W T V) (rx : ∀ A v A2, rE_mem A.1 → st A v A2 → rB SH1 FI1 FL1 A → r2 = v ∧ rB SH1 FI2 FL2 A2) : g_GG n1 SH1 FI2 FL2 FR1 ∧ r2 = r := by
  obtain ⟨A, V, K, W, P, T, f, x1, x2, x3, x4, x5, x6, x7⟩ := hu
  obtain ⟨A2, y1, y2⟩ := kx A x1
  obtain ⟨z1, z2⟩ := rx A r A2 (cE_mem x1.1) y1 (gg_r h hm kr x2)
  exact ⟨gg_step h hm kr kd kc ku y2 z2 x3 x4 x5 x6 x7, z1⟩
/-- where -/
theorem gg_w {a1 a3 r r2 : Int32} {b2 : Int64} (h : g_INV n SH FI FL FR) (hm : g_INV n1 SH1 FI1 FL1 FR1) (hu : g_GG n SH FI FL FR) (kr : g_KR FI FL FI1 FL1) (kd : g_KD n SH FI FL FR n1 SH1 FI1 FL1 FR1) (kx : ∀ A V, v_any FI FR SH n V → v_bt V → cB SH FI FL FR A → ∃ A2, whe_is A V a1 b2 a3 r A2 ∧ cB SH1 FI1 FL1 FR1 A2) (kc : g_KC n1 FI1 FL1 FI2 FL2) (ku : ∀ K W T V, u_vw FI1 FL1 K W T V → u_vw FI2 FL2 K W T V) (rx : ∀ A v A2 K W T V, u_vw FI1 FL1 K W T V → v_bt V → whe_is A V a1 b2 a3 v A2 → rB SH1 FI1 FL1 A → r2 = v ∧ rB SH1 FI2 FL2 A2) : g_GG n1 SH1 FI2 FL2 FR1 ∧ r2 = r := by
  obtain ⟨A, V, K, W, P, T, f, x1, x2, x3, x4, x5, x6, x7⟩ := hu
  obtain ⟨A2, y1, y2⟩ := kx A V x3 x7 x1
  obtain ⟨z1, z2⟩ := rx A r A2 K W T V (gg_u kr x5) x7 y1 (gg_r h hm kr x2)
  exact ⟨gg_step h hm kr kd kc ku y2 z2 x3 x4 x5 x6 x7, z1⟩
/-- means -/
theorem gg_n {a1 r r2 : Int32} {b2 : Int64} (h : g_INV n SH FI FL FR) (hm : g_INV n1 SH1 FI1 FL1 FR1) (hu : g_GG n SH FI FL FR) (kr : g_KR FI FL FI1 FL1) (kd : g_KD n SH FI FL FR n1 SH1 FI1 FL1 FR1) (kx : ∀ A V fb, xfq A.1 fb → v_any FI FR SH n V → (V = [] ∨ v_cm FI FL FR SH n V) → cB SH FI FL FR A → (¬ (0 ≤ a1.toInt ∧ a1.toInt < (V.length : Int)) ∧ r = -1 ∧ cB SH1 FI1 FL1 FR1 A) ∨ ((0 ≤ a1.toInt ∧ a1.toInt < (V.length : Int)) ∧ ∀ x, V[a1.toInt.toNat]? = some x → ∀ a, mvar A.1 fb b2 x.2.2.1 x.2.2.2.1 a → ∃ A2, go_is A r a A2 ∧ cB SH1 FI1 FL1 FR1 A2)) (kc : g_KC n1 FI1 FL1 FI2 FL2) (ku : ∀ K W T V, u_vw FI1 FL1 K W T V → u_vw FI2 FL2 K W T V) (rx : ∀ A V fb K W P T f, xfq A.1 fb → u_vw FI1 FL1 K W T V → (V = [] ∨ (tk_ok K W P T ∧ lp_in K W f T V)) → rB SH1 FI1 FL1 A → (¬ (0 ≤ a1.toInt ∧ a1.toInt < (V.length : Int)) ∧ r2 = -1 ∧ rB SH1 FI2 FL2 A) ∨ ((0 ≤ a1.toInt ∧ a1.toInt < (V.length : Int)) ∧ ∃ x, V[a1.toInt.toNat]? = some x ∧ ∃ a, mvar A.1 fb b2 x.2.2.1 x.2.2.2.1 a ∧ ∀ v A2, go_is A v a A2 → r2 = v ∧ rB SH1 FI2 FL2 A2)) : g_GG n1 SH1 FI2 FL2 FR1 ∧ r2 = r := by
  obtain ⟨A, V, K, W, P, T, f, x1, x2, x3, x4, x5, x6, x7⟩ := hu
  obtain ⟨fb, hfb⟩ := fb_ex A.1
  rcases kx A V fb hfb x3 x4 x1 with ⟨k1, k2, k3⟩ | ⟨k1, k2⟩
  · rcases rx A V fb K W P T f hfb (gg_u kr x5) x6 (gg_r h hm kr x2) with ⟨-, z2, z3⟩ | ⟨z1, -⟩
    · exact ⟨gg_step h hm kr kd kc ku k3 z3 x3 x4 x5 x6 x7, by rw [z2, k2]⟩
    · exact absurd z1 k1
  · rcases rx A V fb K W P T f hfb (gg_u kr x5) x6 (gg_r h hm kr x2) with ⟨z1, -⟩ | ⟨-, x, hx, a, z1, z2⟩
    · exact absurd k1 z1
    · obtain ⟨A2, y1, y2⟩ := k2 x hx a z1
      obtain ⟨w1, w2⟩ := z2 r A2 y1
      exact ⟨gg_step h hm kr kd kc ku y2 w2 x3 x4 x5 x6 x7, w1⟩
end GT
section HT
variable {sk : xK} {base d : Nat} {X : Option (Nat × Nat × (Nat → Int32))} {j pc : Nat} {L : xL} {st : List Value} {s : hS} {Φ : Option Value → hS → Prop}
theorem hw_tlq {x : Int64} (k : ∀ y : Int64, x = y → hw sk base d X j pc L (.long y :: st) s Φ) : hw sk base d X j pc L (.long x :: st) s Φ := k x rfl
theorem hw_tlz {x z : Int64} (e : x = z) (k : hw sk base d X j pc L (.long z :: st) s Φ) : hw sk base d X j pc L (.long x :: st) s Φ := by
  rw [e]
  exact k
end HT
