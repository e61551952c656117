/-! BOTH COMPILES, in the law's state. -/
def v_kp (n : Nat) (SH : Nat → Nat × Nat) (FI : Nat → Nat → Int32) (FL : Nat → Nat → Int64) (FR : Nat → Nat → Option Nat) (n2 : Nat) (S2 : Nat → Nat × Nat) (F2 : Nat → Nat → Int32) (L2 : Nat → Nat → Int64) (R2 : Nat → Nat → Option Nat) : Prop := ∀ V0, (v_any FI FR SH n V0 → v_any F2 R2 S2 n2 V0) ∧ ((V0 = [] ∨ v_cm FI FL FR SH n V0) → (V0 = [] ∨ v_cm F2 L2 R2 S2 n2 V0))
def c_avt (n : Nat) (SH : Nat → Nat × Nat) (FI : Nat → Nat → Int32) (FL : Nat → Nat → Int64) (FR : Nat → Nat → Option Nat) (n2 : Nat) (S2 : Nat → Nat × Nat) (F2 : Nat → Nat → Int32) (L2 : Nat → Nat → Int64) (R2 : Nat → Nat → Option Nat) (K W : Nat → Int) : Prop := ∃ F0, ∀ f, F0 ≤ f → match lp_tx K W f 1100 0 [] with
    | none => v_kp n SH FI FL FR n2 S2 F2 L2 R2
    | some V => ((∃ x, x ∈ V ∧ ¬ v_ok x) ∧ v_kp n SH FI FL FR n2 S2 F2 L2 R2) ∨ ((∀ x, x ∈ V → v_ok x) ∧ v_any F2 R2 S2 n2 V ∧ (V = [] ∨ v_cm F2 L2 R2 S2 n2 V))
def c_aut (FI : Nat → Nat → Int32) (FL : Nat → Nat → Int64) (F2 : Nat → Nat → Int32) (L2 : Nat → Nat → Int64) (K W : Nat → Int) (T : Nat) : Prop := ∃ F0, ∀ f, F0 ≤ f → (∀ V, lp_tx K W f 1100 0 [] = some V → lp_in K W f T V) ∧ match lp_tx K W f 1100 0 [] with
    | none => ∀ K0 W0 T0 V0, u_vw FI FL K0 W0 T0 V0 → u_vw F2 L2 K0 W0 T0 V0
    | some V => ((∃ x, x ∈ V ∧ ¬ v_ok x) ∧ ∀ K0 W0 T0 V0, u_vw FI FL K0 W0 T0 V0 → u_vw F2 L2 K0 W0 T0 V0) ∨ ((∀ x, x ∈ V → v_ok x) ∧ u_vw F2 L2 K W T V)
theorem v_bt_of {F2 : Nat → Nat → Int32} {L2 : Nat → Nat → Int64} {K W : Nat → Int} {T : Nat} {V : List lp_V} (hI : g_I F2) (hu : u_vw F2 L2 K W T V) : v_bt V := by
  intro x hx k hk
  obtain ⟨j, hj⟩ := List.mem_iff_getElem?.mp hx
  have hl := (List.getElem?_eq_some_iff.mp hj).1
  obtain ⟨-, h12, h3, -⟩ := hu
  obtain ⟨-, -, -, -, p5, p6⟩ := h3 j x hj
  rw [← p6 k hk]
  exact gI_124 hI (by omega)
theorem gg_c {n n1 : Nat} {SH SH1 : Nat → Nat × Nat} {FI F1 F2 : Nat → Nat → Int32} {FL L1 L2 : Nat → Nat → Int64} {FR R1 : Nat → Nat → Option Nat} (h : g_INV n SH FI FL FR) (hm : g_INV n1 SH1 F1 L1 R1) (hI2 : g_I F2) (hq : g_TP FI) (hu : g_GG n SH FI FL FR) (kr : g_KR FI FL F1 L1) (e13 : F1 121 13 = FI 121 13) (e126 : F1 126 = FI 126) (cD : ∀ (X : Nat → Int) (N : Nat) (K W : Nat → Int) (P : Nat → Nat) (T : Nat), (FI 0 9).toInt = N → (∀ i, i < N → (FI 19 i).toInt = X i ∧ 0 ≤ X i ∧ X i ≤ 255) → (t_tl X N 1001 0).length = T + 1 → tk_ok K W P T → (∀ i x, (t_tl X N 1001 0)[i]? = some x → K i = x.1 ∧ W i = x.2.1) → (∀ A, cB SH FI FL FR A → cB SH1 F1 L1 R1 A) ∧ c_avt n SH FI FL FR n1 SH1 F1 L1 R1 K W) (kc : g_KC n1 F1 L1 F2 L2) (cE : ∀ (X : Nat → Int) (N : Nat), x_vw F1 X N → (∀ A, rB SH1 F1 L1 A → rB SH1 F2 L2 A) ∧ ∃ K W P T, (t_tl X N 1001 0).length = T + 1 ∧ tk_ok K W P T ∧ (∀ i x, (t_tl X N 1001 0)[i]? = some x → K i = x.1 ∧ W i = x.2.1) ∧ c_aut F1 L1 F2 L2 K W T) : g_GG n1 SH1 F2 L2 R1 := by
  have b9 := gI_0_9 h.2.2.1
  have hN : (FI 0 9).toInt = (((FI 0 9).toInt.toNat : Nat) : Int) := by omega
  have hx : x_vw F1 (fun i => (FI 19 i).toInt) (FI 0 9).toInt.toNat := by
    refine ⟨by rw [e13, ← hq.1]; exact hN, by omega, fun i hi => ?_⟩
    obtain ⟨k1, k2, k3⟩ := hq.2 i hi
    exact ⟨by rw [e126, ← k1], k2, k3⟩
  obtain ⟨rx, K, W, P, T, r1', r2', r3', a2, h2⟩ := cE _ _ hx
  obtain ⟨kx, a1, h1⟩ := cD _ _ K W P T hN (fun i hi => ⟨rfl, (hq.2 i hi).2.1, (hq.2 i hi).2.2⟩) r1' r2' r3'
  have h1 := h1 (a1 + a2) (by omega)
  obtain ⟨hin, h2⟩ := h2 (a1 + a2) (by omega)
  obtain ⟨A, V0, K0, W0, P0, T0, f0, x1, x2, x3, x4, x5, x6, x7⟩ := hu
  have cb := cB_gr hm.1 hm.2.2.2.1 kc (kx A x1)
  have rb := rx A (gg_r h hm kr x2)
  have kd2 := kd_kc (FR := R1) hm.1 kc
  have old : v_kp n SH FI FL FR n1 SH1 F1 L1 R1 → (∀ K0 W0 T0 V0, u_vw F1 L1 K0 W0 T0 V0 → u_vw F2 L2 K0 W0 T0 V0) → g_GG n1 SH1 F2 L2 R1 := fun kp ku => ⟨A, V0, K0, W0, P0, T0, f0, cb, rb, gg_v hm kd2 ((kp V0).1 x3), gg_m hm kd2 ((kp V0).2 x4), ku _ _ _ _ (gg_u kr x5), x6, x7⟩
  generalize lp_tx K W (a1 + a2) 1100 0 [] = r at h1 h2 hin
  match r, h1, h2, hin with
  | none, h1, h2, _ => exact old h1 h2
  | some V, h1, h2, hin =>
    rcases h1 with ⟨⟨x, x1', x2'⟩, g1⟩ | ⟨g1, g2, g3⟩
    · rcases h2 with ⟨-, k1⟩ | ⟨k1, k2⟩
      · exact old g1 k1
      · exact absurd (k1 x x1') x2'
    · rcases h2 with ⟨⟨x, x1', x2'⟩, -⟩ | ⟨k1, k2⟩
      · exact absurd (g1 x x1') x2'
      · exact ⟨A, V, K, W, P, T, a1 + a2, cb, rb, gg_v hm kd2 g2, gg_m hm kd2 g3, k2, Or.inr ⟨r2', hin V rfl⟩, v_bt_of hI2 k2⟩
