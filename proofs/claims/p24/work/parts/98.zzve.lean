/-! THE LAW'S CALLS for the variables. -/
/-- what the class's compile has done -/
def c_av (n : Nat) (SH : Nat → Nat × Nat) (FI : Nat → Nat → Int32) (FR : Nat → Nat → Option Nat) (n2 : Nat) (SH2 : Nat → Nat × Nat) (F2 : Nat → Nat → Int32) (R2 : Nat → Nat → Option Nat) (K W : Nat → Int) (r : Int32) : Prop := ∃ F0, ∀ f, F0 ≤ f → match lp_tx K W f 1100 0 [] with
    | none => r = -1 ∧ ∀ V0, v_any FI FR SH n V0 → v_any F2 R2 SH2 n2 V0
    | some V => ((∃ x, x ∈ V ∧ ¬ v_ok x) ∧ r = -1 ∧ ∀ V0, v_any FI FR SH n V0 → v_any F2 R2 SH2 n2 V0) ∨ ((∀ x, x ∈ V → v_ok x) ∧ v_any F2 R2 SH2 n2 V)
/-- what the reference's has -/
def c_au (FI : Nat → Nat → Int32) (FL : Nat → Nat → Int64) (F2 : Nat → Nat → Int32) (L2 : Nat → Nat → Int64) (K W : Nat → Int) (T : Nat) (r : Int32) : Prop := ∃ F0, ∀ f, F0 ≤ f → match lp_tx K W f 1100 0 [] with
    | none => r = -1 ∧ ∀ K0 W0 T0 V0, u_vw FI FL K0 W0 T0 V0 → u_vw F2 L2 K0 W0 T0 V0
    | some V => ((∃ x, x ∈ V ∧ ¬ v_ok x) ∧ r = -1 ∧ ∀ K0 W0 T0 V0, u_vw FI FL K0 W0 T0 V0 → u_vw F2 L2 K0 W0 T0 V0) ∨ ((∀ x, x ∈ V → v_ok x) ∧ u_vw F2 L2 K W T V)
theorem u_vw_q {FI F2 : Nat → Nat → Int32} {FL L2 : Nat → Nat → Int64} {K W : Nat → Int} {T : Nat} {V : List lp_V} (e : u_eq FI F2 FL L2) (h : u_vw FI FL K W T V) : u_vw F2 L2 K W T V := u_vw_e h ⟨e.1, e.2.1, e.2.2.2.2.1, e.2.2.2.2.2.1, e.2.2.2.2.2.2.1, e.2.2.2.2.2.2.2⟩ (fun k _ => by rw [e.2.2.1]) (fun k _ => by rw [e.2.2.2.1])
section SM2
variable {base n sl n2 sl2 : Nat} {SH SH2 : Nat → Nat × Nat} {FI F2 : Nat → Nat → Int32} {FL L2 : Nat → Nat → Int64} {FR R2 : Nat → Nat → Option Nat}
theorem v_any_sm {V : List lp_V} (sm : h_sm base (n, sl, SH, FI, FL, FR) (n2, sl2, SH2, F2, L2, R2)) (hS : h_S n SH) (hR : g_R n SH FR) (h : v_any F2 R2 SH2 n2 V) : v_any FI FR SH n V := by
  rcases h with h | ⟨h1, h2⟩
  · exact Or.inl (v_cl_sm sm hS hR h)
  · have i12 : FI 0 12 = F2 0 12 := sm_i sm (c0 hS) (t := 11) (by rw [s0 hS]) (by decide) (by decide) (fun _ _ _ => rfl)
    exact Or.inr ⟨h1, by rw [i12]; exact h2⟩
theorem u_sm (sm : h_sm base (n, sl, SH, FI, FL, FR) (n2, sl2, SH2, F2, L2, R2)) (hS : h_S n SH) : u_eq F2 FI L2 FL := ⟨(sm_ia sm (c156 hS) (by rw [s156 hS])).2, (sm_ia sm (c157 hS) (by rw [s157 hS])).2, (sm_ia sm (c124 hS) (by rw [s124 hS])).2, (sm_ia sm (c125 hS) (by rw [s125 hS])).2, (sm_ia sm (c152 hS) (by rw [s152 hS])).2, (sm_la sm (c153 hS) (by rw [s153 hS])).2, (sm_la sm (c155 hS) (by rw [s155 hS])).2, sm_i sm (c121 hS) (t := 12) (by rw [s121 hS]) (by decide) (by decide) (fun _ _ _ => rfl)⟩
end SM2
theorem pk_inv {n : Nat} {SH : Nat → Nat × Nat} {FI : Nat → Nat → Int32} {FL : Nat → Nat → Int64} {FR : Nat → Nat → Option Nat} (h : g_INV n SH FI FL FR) : pk n SH FR := ⟨h.1, fun e he _ => h.2.1 e he, h.2.2.2.1.2.2.2⟩
section DT
variable {sk : xK} {base d n sl : Nat} {SH : Nat → Nat × Nat} {FI : Nat → Nat → Int32} {FL : Nat → Nat → Int64} {FR : Nat → Nat → Option Nat}
/-- a kept row lies where it lay -/
theorem r_keep {A B : Nat} {a1 a2 v : Int32} {s : hS} (hA : a1.toInt = A) (hA2 : A < 20) (hB : a2.toInt = B) (hB2 : B + 600 ≤ 12000) (h : RX12_keep a1 a2 n sl SH FI FL FR v s) : ∃ F2, s = (n, sl, SH, F2, FL, FR) ∧ (∀ k, 12000 ≤ k → F2 124 k = FI 124 k) ∧ ∀ k, 20 ≤ k → F2 125 k = FI 125 k := by
  have gen : ∀ (g : Nat) (l3 : Int32) (i : Nat) (F1 : Nat → Nat → Int32), l3.toInt = i → (F1 121 13).toInt ≤ 600 → i ≤ 600 → GX12_keep_14 a1 a2 g l3 n sl SH F1 FL FR v s → ∃ F2, s = (n, sl, SH, F2, FL, FR) ∧ (∀ k, 12000 ≤ k → F2 124 k = F1 124 k) ∧ ∀ k, 20 ≤ k → F2 125 k = F1 125 k := by
    intro g
    induction g with
    | zero => intro l3 i F1 _ _ _ h; exact h.elim
    | succ g ih =>
      intro l3 i F1 hi h13 hi6 h
      rcases h with ⟨h0, -, -, h⟩ | ⟨h0, -, -, -, e⟩
      · rw [hi] at h0
        have e1 : (a2 + l3).toInt = ((B + i : Nat) : Int) := by rw [i_add hB hi (by omega) (by omega)]; omega
        obtain ⟨F2, q1, q2, q3⟩ := ih _ (i + 1) _ (by rw [i_add hi (by decide : ((1 : Int32)).toInt = 1) (by omega) (by omega)]; omega) (by rw [h_up_nc (by decide)]; exact h13) (by omega) h
        exact ⟨F2, q1, fun k hk => by rw [q2 k hk, h_up_ne (by omega)], fun k hk => by rw [q3 k hk, h_up_nc (by decide)]⟩
      · exact ⟨_, e, fun k hk => by rw [h_up_nc (by decide), h_up_nc (by decide)], fun k hk => by rw [h_up_nc (by decide), h_up_ne (by omega)]⟩
  rcases h with ⟨h0, -, e⟩ | ⟨h0, g, h⟩
  · exact ⟨_, e, fun _ _ => rfl, fun _ _ => rfl⟩
  · rw [show ((600 : Int32)).toInt = 600 by decide] at h0
    exact gen g _ 0 FI (by decide) (by omega) (by omega) h
theorem r_exp {a1 v : Int32} {s : hS} (h : RX12_expression a1 n sl SH FI FL FR v s) : ∃ F2, s = (n, sl, SH, F2, FL, FR) ∧ (∀ k, 12000 ≤ k → F2 124 k = FI 124 k) ∧ ∀ k, 20 ≤ k → F2 125 k = FI 125 k := by
  have z : ∀ c, c ≠ 121 → (h_up FI 121 0 ((0 : Int32))) c = FI c := fun c hc => h_up_nc hc
  rcases h with ⟨h0, -, e⟩ | ⟨h0, h⟩
  · exact ⟨_, e, fun k _ => by rw [z 124 (by decide)], fun k _ => by rw [z 125 (by decide)]⟩
  rcases h with ⟨h1, -, e⟩ | ⟨h1, h⟩
  · exact ⟨_, e, fun k _ => by rw [z 124 (by decide)], fun k _ => by rw [z 125 (by decide)]⟩
  rw [show ((15 : Int32)).toInt = 15 by decide] at h1
  obtain ⟨v3, n3, sl3, SH3, FI3, FL3, FR3, hk, -, e⟩ := h
  obtain ⟨F2, q1, q2, q3⟩ := r_keep (A := a1.toInt.toNat) (B := 600 * a1.toInt.toNat) (by omega) (by omega) (by rw [i_mul (by decide : ((600 : Int32)).toInt = 600) (rfl : a1.toInt = a1.toInt) (by omega) (by omega)]; omega) (by omega) hk
  cases q1
  exact ⟨_, e, fun k hk => by rw [q2 k hk, z 124 (by decide)], fun k hk => by rw [q3 k hk, z 125 (by decide)]⟩
theorem r_lst {a1 v : Int32} {s : hS} (h : RX12_list a1 n sl SH FI FL FR v s) : ∃ F2, s = (n, sl, SH, F2, FL, FR) ∧ (∀ k, 12000 ≤ k → F2 124 k = FI 124 k) ∧ ∀ k, 20 ≤ k → F2 125 k = FI 125 k := by
  have z : ∀ c, c ≠ 121 → (h_up FI 121 0 ((0 : Int32))) c = FI c := fun c hc => h_up_nc hc
  rcases h with ⟨h0, -, e⟩ | ⟨h0, h⟩
  · exact ⟨_, e, fun k _ => by rw [z 124 (by decide)], fun k _ => by rw [z 125 (by decide)]⟩
  rcases h with ⟨h1, -, e⟩ | ⟨h1, h⟩
  · exact ⟨_, e, fun k _ => by rw [z 124 (by decide)], fun k _ => by rw [z 125 (by decide)]⟩
  rw [show ((3 : Int32)).toInt = 3 by decide] at h1
  obtain ⟨v3, n3, sl3, SH3, FI3, FL3, FR3, hk, -, e⟩ := h
  obtain ⟨F2, q1, q2, q3⟩ := r_keep (A := 16 + a1.toInt.toNat) (B := 9600 + 600 * a1.toInt.toNat) (by rw [i_add (by decide : ((16 : Int32)).toInt = 16) (rfl : a1.toInt = a1.toInt) (by omega) (by omega)]; omega) (by omega) (by rw [i_add (by decide : ((9600 : Int32)).toInt = 9600) (i_mul (by decide : ((600 : Int32)).toInt = 600) (rfl : a1.toInt = a1.toInt) (by omega) (by omega)) (by omega) (by omega)]; omega) (by omega) hk
  cases q1
  exact ⟨_, e, fun k hk => by rw [q2 k hk, z 124 (by decide)], fun k hk => by rw [q3 k hk, z 125 (by decide)]⟩
end DT
