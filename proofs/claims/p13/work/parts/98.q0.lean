/-! WHAT HOLDS BETWEEN TWO CALLS OF THE LAW. -/
def g_M (FI : Nat → Nat → Int32) (FL : Nat → Nat → Int64) : Prop := rl_h 2 (FI 136) (FL 137) (FI 138) ∧ rl_h 32 (FI 130) (FL 131) (FI 134) ∧ rl_b (FI 139) (FI 140) (FI 141) ∧ rl_p (FI 143) (FL 144) ∧ rl_t (FI 149) (FL 150) ∧ rl_t (FI 152) (FL 153) ∧ rl_v (FI 121 74) (FI 152) (FL 153) (FI 156) (FI 157) ∧ rl_m (FI 169) (FL 170)
def g_INV (n : Nat) (SH : Nat → Nat × Nat) (FI : Nat → Nat → Int32) (FL : Nat → Nat → Int64) (FR : Nat → Nat → Option Nat) : Prop := h_S n SH ∧ h_FR FR ∧ g_I FI ∧ g_R n SH FR ∧ g_V SH FI FR ∧ (∃ gp gw gs, g_T n SH FI FR gp gw gs) ∧ g_M FI FL
section GL
variable {n n2 : Nat} {SH SH2 : Nat → Nat × Nat} {FI FI2 : Nat → Nat → Int32} {FL FL2 : Nat → Nat → Int64} {FR FR2 : Nat → Nat → Option Nat}
/-- a frame of the class: no cell of the reference, no node's kind, not how many variables there are -/
def g_cls (L : List (Nat × Nat)) (A T : List Nat) : Bool := L.all (fun p => decide (p.1 < 121)) && (A.all (fun q => decide (q < 121)) && T.all (fun t => decide (t < 2000)))
theorem g_cls_at {α : Type} {F F2 : Nat → Nat → α} {L : List (Nat × Nat)} {A T : List Nat} (f : g_fr n (shd SH) L A T F F2) (m : g_cls L A T = true) (hn : 176 ≤ n) {c k : Nat} (h1 : 121 ≤ c) (h2 : c < 176) : F2 c k = F c k := by
  unfold g_cls at m
  rw [Bool.and_eq_true, Bool.and_eq_true] at m
  obtain ⟨m1, m2, m3⟩ := m
  refine f c k (by omega) (fun h => ?_) (fun h => ?_) (fun h => ?_)
  · have := of_decide_eq_true (List.all_eq_true.mp m1 (c, k) h)
    dsimp only at this
    omega
  · have := of_decide_eq_true (List.all_eq_true.mp m2 c h)
    omega
  · have h3 := of_decide_eq_true (List.all_eq_true.mp m3 _ h)
    unfold shd at h3
    rw [if_neg (by omega), if_pos h1] at h3
    dsimp only at h3
    omega
theorem gM_eq (hI : ∀ c k, 121 ≤ c → c < 176 → FI2 c k = FI c k) (hL : ∀ c k, 121 ≤ c → c < 176 → FL2 c k = FL c k) (h : g_M FI FL) : g_M FI2 FL2 := by
  have e : ∀ c, 121 ≤ c → c < 176 → FI2 c = FI c := fun c h1 h2 => funext fun k => hI c k h1 h2
  have g : ∀ c, 121 ≤ c → c < 176 → FL2 c = FL c := fun c h1 h2 => funext fun k => hL c k h1 h2
  unfold g_M
  rw [e 136 (by decide) (by decide), e 138 (by decide) (by decide), e 130 (by decide) (by decide), e 134 (by decide) (by decide), e 139 (by decide) (by decide), e 140 (by decide) (by decide), e 141 (by decide) (by decide), e 143 (by decide) (by decide), e 149 (by decide) (by decide), e 152 (by decide) (by decide), e 121 (by decide) (by decide), e 156 (by decide) (by decide), e 157 (by decide) (by decide), e 169 (by decide) (by decide), g 137 (by decide) (by decide), g 131 (by decide) (by decide), g 144 (by decide) (by decide), g 150 (by decide) (by decide), g 153 (by decide) (by decide), g 170 (by decide) (by decide)]
  exact h
theorem gf_sh {α : Type} {F F2 : Nat → Nat → α} {L : List (Nat × Nat)} {A : List Nat} (f : g_fr n SH L A [] F F2) : g_fr n (shd SH) L A [] F F2 := fun c k h1 h2 h3 _ => f c k h1 h2 h3 (by simp)
/-- the desk's variables, behind a call that leaves them alone -/
theorem gV_fr {L1 L3 : List (Nat × Nat)} {A1 T1 A3 T3 : List Nat} (hS : h_S n SH) (hR : g_R n SH FR) (ex : g_ex n SH n2 SH2) (h : g_V SH FI FR) (f1 : g_fr n (shd SH) L1 A1 T1 FI FI2) (f3 : g_fr n (shd SH) L3 A3 T3 FR FR2) (m1 : (L1.contains (0, 12) || A1.contains 0 || T1.contains 11) = false) (m3 : (L3.contains (0, 11) || A3.contains 0 || T3.contains 11) = false) (m4 : g_low L3 A3 T3 [1010, 1104] = true) : g_V SH2 FI2 FR2 := by
  have e1 : FI2 0 12 = FI 0 12 := gf_at f1 (c0 hS) (shd_f (by decide) (s0 hS)) m1 rfl
  have e3 : FR2 0 11 = FR 0 11 := gf_at f3 (c0 hS) (shd_f (by decide) (s0 hS)) m3 rfl
  obtain ⟨v, a1, a2⟩ := h
  have hv := gR_o hR (c0 hS) (Or.inl (by decide)) a1
  rw [s0 hS] at hv
  refine ⟨v, by rw [e3]; exact a1, fun i hi => ?_⟩
  rw [e1] at hi
  obtain ⟨g0, r, g1, g2, g3, k, g4⟩ := a2 i hi
  have hr := gR_o hR hv.1 hv.2.1 g1
  have ht : (SH r).1 = 10 := by rw [hr.2.2, hv.2.2]; rfl
  have eq : ∀ k, FR2 r k = FR r k := fun k => g_low_at (t := 1010) f3 m4 hr.1 g2 (by rw [ht]) (by decide)
  exact ⟨g0, r, by rw [g_low_at (t := 1104) f3 m4 hv.1 g0 (by rw [hv.2.2]; rfl) (by decide)]; exact g1, g2, gV_gr hR hr.1 hr.2.1 ex eq g3, k, by rw [eq]; exact g4⟩
theorem inv_cls {L1 L2 L3 : List (Nat × Nat)} {A1 T1 A2 T2 A3 T3 : List Nat} (h : g_INV n SH FI FL FR) (hI : g_I FI2) (hF : h_FR FR2) (hR : g_R n SH FR2) (f1 : g_fr n (shd SH) L1 A1 T1 FI FI2) (f2 : g_fr n (shd SH) L2 A2 T2 FL FL2) (f3 : g_fr n (shd SH) L3 A3 T3 FR FR2) (c1 : g_cls L1 A1 T1 = true) (c2 : g_cls L2 A2 T2 = true) (m1 : (L1.contains (0, 12) || A1.contains 0 || T1.contains 11) = false) (m3 : (L3.contains (0, 11) || A3.contains 0 || T3.contains 11) = false) (m4 : g_low L3 A3 T3 [1010, 1104] = true) (m5 : g_low L1 A1 T1 [1003] = true) (m6 : g_low L3 A3 T3 [1003, 1006] = true) : g_INV n SH FI2 FL2 FR2 := by
  obtain ⟨hS, -, -, hR0, hV, ⟨gp, gw, gs, hT⟩, hM⟩ := h
  exact ⟨hS, hF, hI, hR, gV_fr hS hR0 ex_rf hV f1 f3 m1 m3 m4, ⟨gp, gw, gs, gT_mw hS hT f1 f3 m5 m6⟩, gM_eq (fun c k h1 h2 => g_cls_at f1 c1 hS.1 h1 h2) (fun c k h1 h2 => g_cls_at f2 c2 hS.1 h1 h2) hM⟩
theorem inv_ref {L1 : List (Nat × Nat)} {A1 : List Nat} (h : g_INV n SH FI FL FR) (hI : g_I FI2) (f1 : g_fr n SH L1 A1 [] FI FI2) (m1 : (L1.all (fun p => decide (121 ≤ p.1 ∧ p.1 < 176)) && A1.all (fun q => decide (121 ≤ q ∧ q < 176))) = true) (hM : g_M FI2 FL2) : g_INV n SH FI2 FL2 FR ∧ FI2 0 9 = FI 0 9 := by
  obtain ⟨hS, hF, -, hR, hV, ⟨gp, gw, gs, hT⟩, -⟩ := h
  rw [Bool.and_eq_true] at m1
  have key : ∀ c k, c < n → c < 121 ∨ 176 ≤ c → FI2 c k = FI c k := fun c k hc ho => by
    refine f1 c k hc (fun h => ?_) (fun h => ?_) (by simp)
    · have := of_decide_eq_true (List.all_eq_true.mp m1.1 (c, k) h)
      dsimp only at this
      omega
    · have := of_decide_eq_true (List.all_eq_true.mp m1.2 c h)
      omega
  have h0 : 0 < n := c0 hS
  refine ⟨⟨hS, hF, hI, hR, ?_, ⟨gp, gw, gs, ?_⟩, hM⟩, key 0 9 h0 (by omega)⟩
  · obtain ⟨v, a1, a2⟩ := hV
    refine ⟨v, a1, fun i hi => a2 i ?_⟩
    rw [key 0 12 h0 (by omega)] at hi
    exact hi
  · refine ⟨fun c hc hs => ?_, hT.2⟩
    have hd : 176 ≤ c := g_dynt hS hs (by decide +kernel)
    obtain ⟨h1, h2, h3, h4, h5, h6⟩ := hT.1 c hc hs
    rw [key c 0 hc (Or.inr hd)]
    refine ⟨h1, h2, h3, h4, h5, fun ht hk => h6 ht ?_⟩
    rw [← key _ 0 h5 (Or.inr (g_dynt hS ht (by decide +kernel)))]
    exact hk
/-- what a call may add: cells and slots, the tape's bytes counted -/
def g_RM (n sl : Nat) (FI : Nat → Nat → Int32) (n2 sl2 : Nat) (FI2 : Nat → Nat → Int32) : Prop := (n2 : Int) + 32 * (FI2 0 9).toInt ≤ n + 32 * (FI 0 9).toInt + 720 ∧ (sl2 : Int) + 300 * (FI2 0 9).toInt ≤ sl + 300 * (FI 0 9).toInt + 8000
end GL
