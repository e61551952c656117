/-! THE LAW'S CALLS for the variables. -/
/-- what the class's compile has done -/
def c_av (n : Nat) (SH : Nat → Nat × Nat) (FI : Nat → Nat → Int32) (FR : Nat → Nat → Option Nat) (n2 : Nat) (SH2 : Nat → Nat × Nat) (F2 : Nat → Nat → Int32) (R2 : Nat → Nat → Option Nat) (K W : Nat → Int) (r : Int32) : Prop := ∃ F0, ∀ f, F0 ≤ f → match lp_tx K W f 1100 0 [] with
    | none => r = -1 ∧ ∀ V0, v_any FI FR SH n V0 → v_any F2 R2 SH2 n2 V0
    | some V => ((∃ x, x ∈ V ∧ ¬ v_ok x) ∧ r = -1 ∧ ∀ V0, v_any FI FR SH n V0 → v_any F2 R2 SH2 n2 V0) ∨ ((∀ x, x ∈ V → v_ok x) ∧ v_any F2 R2 SH2 n2 V)
/-- what the reference's has -/
def c_au (FI : Nat → Nat → Int32) (FL : Nat → Nat → Int64) (F2 : Nat → Nat → Int32) (L2 : Nat → Nat → Int64) (K W : Nat → Int) (T : Nat) (r : Int32) : Prop := ∃ F0, ∀ f, F0 ≤ f → match lp_tx K W f 1100 0 [] with
    | none => r = -1 ∧ ∀ K0 W0 T0 V0, u_vw FI FL K0 W0 T0 V0 → u_vw F2 L2 K0 W0 T0 V0
    | some V => ((∃ x, x ∈ V ∧ ¬ v_ok x) ∧ r = -1 ∧ ∀ K0 W0 T0 V0, u_vw FI FL K0 W0 T0 V0 → u_vw F2 L2 K0 W0 T0 V0) ∨ ((∀ x, x ∈ V → v_ok x) ∧ u_vw F2 L2 K W T V)
theorem u_vw_q {FI F2 : Nat → Nat → Int32} {FL L2 : Nat → Nat → Int64} {K W : Nat → Int} {T : Nat} {V : List lp_V} (e : u_eq FI F2 FL L2) (h : u_vw FI FL K W T V) : u_vw F2 L2 K W T V := u_vw_e h ⟨e.1, e.2.1, e.2.2.2.2.1, e.2.2.2.2.2.1, e.2.2.2.2.2.2.1, e.2.2.2.2.2.2.2⟩ (fun k _ => by rw [e.2.2.1]) (fun k _ => by rw [e.2.2.2.1])
section SM2
variable {base n sl n2 sl2 : Nat} {SH SH2 : Nat → Nat × Nat} {FI F2 : Nat → Nat → Int32} {FL L2 : Nat → Nat → Int64} {FR R2 : Nat → Nat → Option Nat}
theorem v_any_sm {V : List lp_V} (sm : h_sm base (n, sl, SH, FI, FL, FR) (n2, sl2, SH2, F2, L2, R2)) (hS : h_S n SH) (hR : g_R n SH FR) (h : v_any F2 R2 SH2 n2 V) : v_any FI FR SH n V := by
  rcases h with h | ⟨h1, h2⟩
  · exact Or.inl (v_cl_sm sm hS hR h)
  · have i12 : FI 0 12 = F2 0 12 := sm_i sm (c0 hS) (t := 11) (by rw [s0 hS]) (by decide) (by decide) (fun _ _ _ => rfl)
    exact Or.inr ⟨h1, by rw [i12]; exact h2⟩
theorem u_sm (sm : h_sm base (n, sl, SH, FI, FL, FR) (n2, sl2, SH2, F2, L2, R2)) (hS : h_S n SH) : u_eq F2 FI L2 FL := ⟨(sm_ia sm (c156 hS) (by rw [s156 hS])).2, (sm_ia sm (c157 hS) (by rw [s157 hS])).2, (sm_ia sm (c124 hS) (by rw [s124 hS])).2, (sm_ia sm (c125 hS) (by rw [s125 hS])).2, (sm_ia sm (c152 hS) (by rw [s152 hS])).2, (sm_la sm (c153 hS) (by rw [s153 hS])).2, (sm_la sm (c155 hS) (by rw [s155 hS])).2, sm_i sm (c121 hS) (t := 12) (by rw [s121 hS]) (by decide) (by decide) (fun _ _ _ => rfl)⟩
end SM2
theorem pk_inv {n : Nat} {SH : Nat → Nat × Nat} {FI : Nat → Nat → Int32} {FL : Nat → Nat → Int64} {FR : Nat → Nat → Option Nat} (h : g_INV n SH FI FL FR) : pk n SH FR := ⟨h.1, fun e he _ => h.2.1 e he, h.2.2.2.1.2.2.2⟩
section DT
variable {sk : xK} {base d n sl : Nat} {SH : Nat → Nat × Nat} {FI : Nat → Nat → Int32} {FL : Nat → Nat → Int64} {FR : Nat → Nat → Option Nat}
theorem D_feed (hkb : x_kb sk base) (h : g_INV n SH FI FL FR) (a1 a2 a3 a4 a5 : Int32) : hw sk base (d + 1) none 118 0 [(0, .ref (base + 0)), (1, .int (a1)), (2, .int (a2)), (3, .int (a3)), (4, .int (a4)), (5, .int (a5))] [] (n, sl, SH, FI, FL, FR) (h_I (fun r s => ∃ n' sl' SH' FI' FL' FR', s = (n', sl', SH', FI', FL', FR') ∧ g_INV n' SH' FI' FL' FR' ∧ g_RM n sl FI n' sl' FI' ∧ ((r.toInt = -1 ∧ (FI' 0 9).toInt = (FI 0 9).toInt ∧ 980 < (FI 0 9).toInt) ∨ (r.toInt = (FI 0 9).toInt + 20 ∧ (FI' 0 9).toInt = (FI 0 9).toInt + 20 ∧ (FI 0 9).toInt ≤ 980)) ∧ FI' 121 13 = FI 121 13 ∧ FI' 126 = FI 126 ∧ g_UK n SH FI FL FR n' SH' FI' FL' FR' ∧ ∀ N : Nat, (FI 0 9).toInt = N → FI' 19 = (if N ≤ 980 then f_20 (FI 19) N a1 a2 a3 a4 a5 else FI 19))) := by
  refine xw_mono (hw_pw (d_feed h a1 a2 a3 a4 a5) (fun N => rX11_feed hkb a1 a2 a3 a4 a5 n sl SH FI FL FR (pk_inv h))) ?_
  rintro v s ⟨⟨r, rfl, n', sl', SH', FI', FL', FR', rfl, t1, t2, t3, t4, t5, t6⟩, x, s2, e, hR, sm⟩
  refine ⟨r, rfl, n', sl', SH', FI', FL', FR', rfl, t1, t2, t3, t4, t5, t6, fun N hN => ?_⟩
  have b9 := gI_0_9 h.2.2.1
  obtain ⟨F2, rfl, e2⟩ := fq_feed hR hN (by omega)
  rw [h_sm_ia sm (c := 19) (by have := t1.1.1; omega) (s19 t1.1) (s19 h.1)]
  exact e2
theorem E_feed (hkb : x_kb sk base) (h : g_INV n SH FI FL FR) (a1 a2 a3 a4 a5 : Int32) : hw sk base (d + 1) none 154 0 [(0, .ref (base + 121)), (1, .int (a1)), (2, .int (a2)), (3, .int (a3)), (4, .int (a4)), (5, .int (a5))] [] (n, sl, SH, FI, FL, FR) (h_I (fun r s => ∃ FI' FL', s = (n, sl, SH, FI', FL', FR) ∧ g_INV n SH FI' FL' FR ∧ FI' 0 9 = FI 0 9 ∧ ((r.toInt = -1 ∧ (FI' 121 13).toInt = (FI 121 13).toInt ∧ 980 < (FI 121 13).toInt) ∨ (r.toInt = (FI 121 13).toInt + 20 ∧ (FI' 121 13).toInt = (FI 121 13).toInt + 20 ∧ (FI 121 13).toInt ≤ 980)) ∧ FI' 19 = FI 19 ∧ g_UK n SH FI FL FR n SH FI' FL' FR ∧ ∀ N : Nat, (FI 121 13).toInt = N → N ≤ 1000 → FI' 126 = (if N ≤ 980 then f_20 (FI 126) N a1 a2 a3 a4 a5 else FI 126))) := by
  refine xw_mono (hw_pw (e_modelFeed h a1 a2 a3 a4 a5) (fun N => rX12_feed hkb a1 a2 a3 a4 a5 n sl SH FI FL FR (pk_inv h))) ?_
  rintro v s ⟨⟨r, rfl, FI', FL', rfl, t1, t2, t3, t4, t5⟩, x, s2, e, hR, sm⟩
  refine ⟨r, rfl, FI', FL', rfl, t1, t2, t3, t4, t5, fun N hN h0 => ?_⟩
  obtain ⟨F2, rfl, e2⟩ := pq_feed hR hN h0
  rw [h_sm_ia sm (c := 126) (by have := h.1.1; omega) (s126 h.1) (s126 h.1)]
  exact e2
theorem D_compile (hkb : x_kb sk base) (h : g_INV n SH FI FL FR) : hw sk base (d + 252) none 146 0 [(0, .ref (base + 0))] [] (n, sl, SH, FI, FL, FR) (h_I (fun r s => ∃ n' sl' SH' FI' FL' FR', s = (n', sl', SH', FI', FL', FR') ∧ g_INV n' SH' FI' FL' FR' ∧ g_RM n sl FI n' sl' FI' ∧ ((FI' 0 9).toInt = 0) ∧ FI' 121 13 = FI 121 13 ∧ FI' 19 = FI 19 ∧ FI' 126 = FI 126 ∧ (∀ K W T V, u_vw FI FL K W T V → u_vw FI' FL' K W T V) ∧ ∀ (X : Nat → Int) (N : Nat) (K W : Nat → Int) (P : Nat → Nat) (T : Nat), (FI 0 9).toInt = N → (∀ i, i < N → (FI 19 i).toInt = X i ∧ 0 ≤ X i ∧ X i ≤ 255) → (t_tl X N 1001 0).length = T + 1 → tk_ok K W P T → (∀ i x, (t_tl X N 1001 0)[i]? = some x → K i = x.1 ∧ W i = x.2.1) → c_av n SH FI FR n' SH' FI' FR' K W r)) := by
  refine xw_mono (hw_pw (d_compile h) (fun N => rX11_compile hkb n sl SH FI FL FR (pk_inv h))) ?_
  rintro v s ⟨⟨r, rfl, n', sl', SH', FI', FL', FR', rfl, t1, t2, t3, t4, t5, t6, t7⟩, x, s2, e, hR, sm⟩
  refine ⟨r, rfl, n', sl', SH', FI', FL', FR', rfl, t1, t2, t3, t4, t5, t6, t7, fun X N K W P T hN hX hT hk hK => ?_⟩
  have er : r = x := by
    have e : some (Value.int r) = some (Value.int x) := e
    exact Value.int.inj (Option.some.inj e)
  subst er
  have b9 := gI_0_9 h.2.2.1
  obtain ⟨n2, sl2, SH2, F2, L2, R2, rfl, ⟨p1, p2, p3, p4, p5, p6⟩, -, F0, res⟩ := s_compile h.1 hR hN (by omega) hX hK hk hT
  have keep : F2 0 12 = FI 0 12 → R2 0 11 = FR 0 11 → ∀ V0, v_any FI FR SH n V0 → v_any FI' FR' SH' n' V0 := fun e1 e2 V0 hv => v_any_sm sm t1.1 t1.2.2.2.1 (v_any_fr h.2.2.2.2.1 ⟨p1, p6⟩ e1 e2 (fun c k h1 h2 => p3 c k h2 (by omega) (by omega)) (fun c k h1 h2 => p5 c k h2 (by omega) (by omega)) hv)
  refine ⟨F0, fun f hf => ?_⟩
  have q := res f hf
  generalize lp_tx K W f 1100 0 [] = o at q
  match o, q with
  | none, q => exact ⟨q.1, keep q.2.1 q.2.2⟩
  | some V, q =>
    rcases q with ⟨q1, q2, q3, q4⟩ | ⟨q1, q2, q3⟩
    · exact Or.inl ⟨q1, q2, keep q3 q4⟩
    · exact Or.inr ⟨q1, Or.inl (v_cl_sm sm t1.1 t1.2.2.2.1 q3)⟩
theorem E_compile (hkb : x_kb sk base) (h : g_INV n SH FI FL FR) : hw sk base (d + 11) none 225 0 [(0, .ref (base + 121))] [] (n, sl, SH, FI, FL, FR) (h_I (fun r s => ∃ FI' FL', s = (n, sl, SH, FI', FL', FR) ∧ g_INV n SH FI' FL' FR ∧ FI' 0 9 = FI 0 9 ∧ ((FI' 121 13).toInt = 0) ∧ FI' 19 = FI 19 ∧ FI' 126 = FI 126 ∧ (∀ V, v_any FI FR SH n V → v_any FI' FR SH n V) ∧ ∀ (X : Nat → Int) (N : Nat), x_vw FI X N → ∃ K W P T, (t_tl X N 1001 0).length = T + 1 ∧ tk_ok K W P T ∧ (∀ i x, (t_tl X N 1001 0)[i]? = some x → K i = x.1 ∧ W i = x.2.1) ∧ c_au FI FL FI' FL' K W T r)) := by
  refine xw_mono (hw_pw (e_compile h) (fun N => rX12_compile hkb n sl SH FI FL FR (pk_inv h))) ?_
  rintro v s ⟨⟨r, rfl, FI', FL', rfl, t1, t2, t3, t4, t5, t6⟩, x, s2, e, hR, sm⟩
  refine ⟨r, rfl, FI', FL', rfl, t1, t2, t3, t4, t5, t6, fun X N hx => ?_⟩
  have er : r = x := by
    have e : some (Value.int r) = some (Value.int x) := e
    exact Value.int.inj (Option.some.inj e)
  subst er
  obtain ⟨K, W, P, T, r1, r2, r3, res⟩ := r_compile h.1 hR hx h.2.2.2.2.2.2.2.2.2.2.1
  obtain ⟨n2, sl2, SH2, F2, L2, R2⟩ := s2
  have us := u_sm sm t1.1
  refine ⟨K, W, P, T, r1, r2, r3, 12 * T + 21, fun f hf => ?_⟩
  have q := res f (by omega)
  generalize lp_tx K W f 1100 0 [] = o at q
  match o, q with
  | none, q => exact ⟨q.1, fun K0 W0 T0 V0 hu => u_vw_q us (u_vw_q q.2 hu)⟩
  | some V, q =>
    rcases q with ⟨q1, q2, q3⟩ | ⟨q1, q2, q3⟩
    · exact Or.inl ⟨q1, q2, fun K0 W0 T0 V0 hu => u_vw_q us (u_vw_q q3 hu)⟩
    · exact Or.inr ⟨q1, u_vw_q us q3⟩
/-- a kept row lies where it lay -/
theorem r_keep {A B : Nat} {a1 a2 v : Int32} {s : hS} (hA : a1.toInt = A) (hA2 : A < 20) (hB : a2.toInt = B) (hB2 : B + 600 ≤ 12000) (h : RX12_keep a1 a2 n sl SH FI FL FR v s) : ∃ F2, s = (n, sl, SH, F2, FL, FR) ∧ (∀ k, 12000 ≤ k → F2 124 k = FI 124 k) ∧ ∀ k, 20 ≤ k → F2 125 k = FI 125 k := by
  have gen : ∀ (g : Nat) (l3 : Int32) (i : Nat) (F1 : Nat → Nat → Int32), l3.toInt = i → (F1 121 13).toInt ≤ 600 → i ≤ 600 → GX12_keep_14 a1 a2 g l3 n sl SH F1 FL FR v s → ∃ F2, s = (n, sl, SH, F2, FL, FR) ∧ (∀ k, 12000 ≤ k → F2 124 k = F1 124 k) ∧ ∀ k, 20 ≤ k → F2 125 k = F1 125 k := by
    intro g
    induction g with
    | zero => intro l3 i F1 _ _ _ h; exact h.elim
    | succ g ih =>
      intro l3 i F1 hi h13 hi6 h
      rcases h with ⟨h0, -, -, h⟩ | ⟨h0, -, -, -, e⟩
      · rw [hi] at h0
        have e1 : (a2 + l3).toInt = ((B + i : Nat) : Int) := by rw [i_add hB hi (by omega) (by omega)]; omega
        obtain ⟨F2, q1, q2, q3⟩ := ih _ (i + 1) _ (by rw [i_add hi (by decide : ((1 : Int32)).toInt = 1) (by omega) (by omega)]; omega) (by rw [h_up_nc (by decide)]; exact h13) (by omega) h
        exact ⟨F2, q1, fun k hk => by rw [q2 k hk, h_up_ne (by omega)], fun k hk => by rw [q3 k hk, h_up_nc (by decide)]⟩
      · exact ⟨_, e, fun k hk => by rw [h_up_nc (by decide), h_up_nc (by decide)], fun k hk => by rw [h_up_nc (by decide), h_up_ne (by omega)]⟩
  rcases h with ⟨h0, -, e⟩ | ⟨h0, g, h⟩
  · exact ⟨_, e, fun _ _ => rfl, fun _ _ => rfl⟩
  · rw [show ((600 : Int32)).toInt = 600 by decide] at h0
    exact gen g _ 0 FI (by decide) (by omega) (by omega) h
theorem r_exp {a1 v : Int32} {s : hS} (h : RX12_expression a1 n sl SH FI FL FR v s) : ∃ F2, s = (n, sl, SH, F2, FL, FR) ∧ (∀ k, 12000 ≤ k → F2 124 k = FI 124 k) ∧ ∀ k, 20 ≤ k → F2 125 k = FI 125 k := by
  have z : ∀ c, c ≠ 121 → (h_up FI 121 0 ((0 : Int32))) c = FI c := fun c hc => h_up_nc hc
  rcases h with ⟨h0, -, e⟩ | ⟨h0, h⟩
  · exact ⟨_, e, fun k _ => by rw [z 124 (by decide)], fun k _ => by rw [z 125 (by decide)]⟩
  rcases h with ⟨h1, -, e⟩ | ⟨h1, h⟩
  · exact ⟨_, e, fun k _ => by rw [z 124 (by decide)], fun k _ => by rw [z 125 (by decide)]⟩
  rw [show ((15 : Int32)).toInt = 15 by decide] at h1
  obtain ⟨v3, n3, sl3, SH3, FI3, FL3, FR3, hk, -, e⟩ := h
  obtain ⟨F2, q1, q2, q3⟩ := r_keep (A := a1.toInt.toNat) (B := 600 * a1.toInt.toNat) (by omega) (by omega) (by rw [i_mul (by decide : ((600 : Int32)).toInt = 600) (rfl : a1.toInt = a1.toInt) (by omega) (by omega)]; omega) (by omega) hk
  cases q1
  exact ⟨_, e, fun k hk => by rw [q2 k hk, z 124 (by decide)], fun k hk => by rw [q3 k hk, z 125 (by decide)]⟩
theorem r_lst {a1 v : Int32} {s : hS} (h : RX12_list a1 n sl SH FI FL FR v s) : ∃ F2, s = (n, sl, SH, F2, FL, FR) ∧ (∀ k, 12000 ≤ k → F2 124 k = FI 124 k) ∧ ∀ k, 20 ≤ k → F2 125 k = FI 125 k := by
  have z : ∀ c, c ≠ 121 → (h_up FI 121 0 ((0 : Int32))) c = FI c := fun c hc => h_up_nc hc
  rcases h with ⟨h0, -, e⟩ | ⟨h0, h⟩
  · exact ⟨_, e, fun k _ => by rw [z 124 (by decide)], fun k _ => by rw [z 125 (by decide)]⟩
  rcases h with ⟨h1, -, e⟩ | ⟨h1, h⟩
  · exact ⟨_, e, fun k _ => by rw [z 124 (by decide)], fun k _ => by rw [z 125 (by decide)]⟩
  rw [show ((3 : Int32)).toInt = 3 by decide] at h1
  obtain ⟨v3, n3, sl3, SH3, FI3, FL3, FR3, hk, -, e⟩ := h
  obtain ⟨F2, q1, q2, q3⟩ := r_keep (A := 16 + a1.toInt.toNat) (B := 9600 + 600 * a1.toInt.toNat) (by rw [i_add (by decide : ((16 : Int32)).toInt = 16) (rfl : a1.toInt = a1.toInt) (by omega) (by omega)]; omega) (by omega) (by rw [i_add (by decide : ((9600 : Int32)).toInt = 9600) (i_mul (by decide : ((600 : Int32)).toInt = 600) (rfl : a1.toInt = a1.toInt) (by omega) (by omega)) (by omega) (by omega)]; omega) (by omega) hk
  cases q1
  exact ⟨_, e, fun k hk => by rw [q2 k hk, z 124 (by decide)], fun k hk => by rw [q3 k hk, z 125 (by decide)]⟩
theorem E_expression (hkb : x_kb sk base) (h : g_INV n SH FI FL FR) (a1 : Int32) : hw sk base (d + 1) none 157 0 [(0, .ref (base + 121)), (1, .int (a1))] [] (n, sl, SH, FI, FL, FR) (h_I (fun r s => ∃ FI' FL', s = (n, sl, SH, FI', FL', FR) ∧ g_INV n SH FI' FL' FR ∧ FI' 0 9 = FI 0 9 ∧ ((r.toInt = -1 ∧ (FI' 121 13).toInt = (FI 121 13).toInt ∧ ((a1).toInt < 0 ∨ 16 ≤ (a1).toInt ∨ 600 < (FI 121 13).toInt)) ∨ (r.toInt = (FI 121 13).toInt ∧ (FI' 121 13).toInt = 0 ∧ 0 ≤ (a1).toInt ∧ (a1).toInt < 16 ∧ (FI 121 13).toInt ≤ 600)) ∧ FI' 19 = FI 19 ∧ FI' 126 = FI 126 ∧ g_UK n SH FI FL FR n SH FI' FL' FR)) := by
  refine xw_mono (hw_pw (e_modelExpression h a1) (fun N => rX12_expression hkb a1 n sl SH FI FL FR (pk_inv h))) ?_
  rintro v s ⟨⟨r, rfl, FI', FL', rfl, t1, t2, t3, t4, t5, t6, t7⟩, x, s2, e, hR, sm⟩
  obtain ⟨F2, rfl, q2, q3⟩ := r_exp hR
  have e4 : FI' 124 = F2 124 := (sm_ia sm (c124 h.1) (by rw [s124 h.1])).2
  have e5 : FI' 125 = F2 125 := (sm_ia sm (c125 h.1) (by rw [s125 h.1])).2
  exact ⟨r, rfl, FI', FL', rfl, t1, t2, t3, t4, t5, fun K W T V => ⟨fun hu => u_vw_e hu t7 (fun k hk => by rw [e4]; exact q2 k hk) (fun k hk => by rw [e5]; exact q3 k hk), t6 V⟩⟩
theorem E_list (hkb : x_kb sk base) (h : g_INV n SH FI FL FR) (a1 : Int32) : hw sk base (d + 1) none 158 0 [(0, .ref (base + 121)), (1, .int (a1))] [] (n, sl, SH, FI, FL, FR) (h_I (fun r s => ∃ FI' FL', s = (n, sl, SH, FI', FL', FR) ∧ g_INV n SH FI' FL' FR ∧ FI' 0 9 = FI 0 9 ∧ ((r.toInt = -1 ∧ (FI' 121 13).toInt = (FI 121 13).toInt ∧ ((a1).toInt < 0 ∨ 4 ≤ (a1).toInt ∨ 600 < (FI 121 13).toInt)) ∨ (r.toInt = (FI 121 13).toInt ∧ (FI' 121 13).toInt = 0 ∧ 0 ≤ (a1).toInt ∧ (a1).toInt < 4 ∧ (FI 121 13).toInt ≤ 600)) ∧ FI' 19 = FI 19 ∧ FI' 126 = FI 126 ∧ g_UK n SH FI FL FR n SH FI' FL' FR)) := by
  refine xw_mono (hw_pw (e_modelList h a1) (fun N => rX12_list hkb a1 n sl SH FI FL FR (pk_inv h))) ?_
  rintro v s ⟨⟨r, rfl, FI', FL', rfl, t1, t2, t3, t4, t5, t6, t7⟩, x, s2, e, hR, sm⟩
  obtain ⟨F2, rfl, q2, q3⟩ := r_lst hR
  have e4 : FI' 124 = F2 124 := (sm_ia sm (c124 h.1) (by rw [s124 h.1])).2
  have e5 : FI' 125 = F2 125 := (sm_ia sm (c125 h.1) (by rw [s125 h.1])).2
  exact ⟨r, rfl, FI', FL', rfl, t1, t2, t3, t4, t5, fun K W T V => ⟨fun hu => u_vw_e hu t7 (fun k hk => by rw [e4]; exact q2 k hk) (fun k hk => by rw [e5]; exact q3 k hk), t6 V⟩⟩
theorem D_variable (hkb : x_kb sk base) (h : g_INV n SH FI FL FR) (a1 : Int32) (a2 : Int32) : hw sk base (d + 1) none 148 0 [(0, .ref (base + 0)), (1, .int (a1)), (2, .int (a2))] [] (n, sl, SH, FI, FL, FR) (h_I (fun r s => ∃ n' sl' SH' FI' FL' FR', s = (n', sl', SH', FI', FL', FR') ∧ g_INV n' SH' FI' FL' FR' ∧ g_RM n sl FI n' sl' FI' ∧ FI' 0 9 = FI 0 9 ∧ FI' 121 13 = FI 121 13 ∧ FI' 19 = FI 19 ∧ FI' 126 = FI 126 ∧ g_UK n SH FI FL FR n' SH' FI' FL' FR' ∧ ∀ V, v_any FI FR SH n V → va_is V a1.toInt a2.toInt r.toInt)) := by
  refine xw_mono (hw_pw (d_variable h a1 a2) (fun N => rX11_variable hkb a1 a2 n sl SH FI FL FR (pk_inv h))) ?_
  rintro v s ⟨⟨r, rfl, n', sl', SH', FI', FL', FR', rfl, t1, t2, t3, t4, t5, t6, t7⟩, x, s2, e, hR, sm⟩
  have er : r = x := by
    have e : some (Value.int r) = some (Value.int x) := e
    exact Value.int.inj (Option.some.inj e)
  subst er
  exact ⟨r, rfl, n', sl', SH', FI', FL', FR', rfl, t1, t2, t3, t4, t5, t6, t7, fun V hv => c_var2 hv hR⟩
theorem E_variable (hkb : x_kb sk base) (h : g_INV n SH FI FL FR) (a1 : Int32) (a2 : Int32) : hw sk base d none 251 0 [(0, .ref (base + 121)), (1, .int (a1)), (2, .int (a2))] [] (n, sl, SH, FI, FL, FR) (h_I (fun r s => ∃ FI' FL', s = (n, sl, SH, FI', FL', FR) ∧ g_INV n SH FI' FL' FR ∧ FI' 0 9 = FI 0 9 ∧ FI' 121 13 = FI 121 13 ∧ FI' 19 = FI 19 ∧ FI' 126 = FI 126 ∧ g_UK n SH FI FL FR n SH FI' FL' FR ∧ ∀ K W T V, u_vw FI FL K W T V → (∀ (j : Nat) (v : lp_V), V[j]? = some v → ∃ D, v_dg D ∧ v.1 = t_tv D) → va_is V a1.toInt a2.toInt r.toInt)) := by
  refine xw_mono (hw_pw (e_variable h a1 a2) (fun N => rX12_variable hkb a1 a2 n sl SH FI FL FR (pk_inv h))) ?_
  rintro v s ⟨⟨r, rfl, FI', FL', rfl, t1, t2, t3, t4, t5, t6⟩, x, s2, e, hR, sm⟩
  have er : r = x := by
    have e : some (Value.int r) = some (Value.int x) := e
    exact Value.int.inj (Option.some.inj e)
  subst er
  exact ⟨r, rfl, FI', FL', rfl, t1, t2, t3, t4, t5, t6, fun K W T V hu hD => r_var hu hD hR⟩
end DT
/-- one answer -/
theorem va_cmp {n n2 : Nat} {SH SH2 : Nat → Nat × Nat} {FI F2 : Nat → Nat → Int32} {FL L2 : Nat → Nat → Int64} {FR R2 : Nat → Nat → Option Nat} {a1 a2 r1 r2 : Int32} (hu : g_UV n SH FI FL FR) (k1 : g_UK n SH FI FL FR n2 SH2 F2 L2 R2) (cD : ∀ V, v_any FI FR SH n V → va_is V a1.toInt a2.toInt r1.toInt) (cE : ∀ K W T V, u_vw F2 L2 K W T V → (∀ (j : Nat) (v : lp_V), V[j]? = some v → ∃ D, v_dg D ∧ v.1 = t_tv D) → va_is V a1.toInt a2.toInt r2.toInt) : r1.toInt = r2.toInt := by
  obtain ⟨K, W, T, V, u, v⟩ := hu
  exact va_eq (v_any_D v) (cD V v) (cE K W T V ((k1 K W T V).1 u) (v_any_D v))
/-- both compiles: the same variables behind them -/
theorem uv_cp {n n1 : Nat} {SH SH1 : Nat → Nat × Nat} {FI F1 F2 : Nat → Nat → Int32} {FL L1 L2 : Nat → Nat → Int64} {FR R1 : Nat → Nat → Option Nat} {r1 r2 : Int32} (hq : g_TP FI) (hI : g_I FI) (hu : g_UV n SH FI FL FR) (e13 : F1 121 13 = FI 121 13) (e126 : F1 126 = FI 126) (u1 : ∀ K W T V, u_vw FI FL K W T V → u_vw F1 L1 K W T V) (cD : ∀ (X : Nat → Int) (N : Nat) (K W : Nat → Int) (P : Nat → Nat) (T : Nat), (FI 0 9).toInt = N → (∀ i, i < N → (FI 19 i).toInt = X i ∧ 0 ≤ X i ∧ X i ≤ 255) → (t_tl X N 1001 0).length = T + 1 → tk_ok K W P T → (∀ i x, (t_tl X N 1001 0)[i]? = some x → K i = x.1 ∧ W i = x.2.1) → c_av n SH FI FR n1 SH1 F1 R1 K W r1) (v2 : ∀ V, v_any F1 R1 SH1 n1 V → v_any F2 R1 SH1 n1 V) (cE : ∀ (X : Nat → Int) (N : Nat), x_vw F1 X N → ∃ K W P T, (t_tl X N 1001 0).length = T + 1 ∧ tk_ok K W P T ∧ (∀ i x, (t_tl X N 1001 0)[i]? = some x → K i = x.1 ∧ W i = x.2.1) ∧ c_au F1 L1 F2 L2 K W T r2) : g_UV n1 SH1 F2 L2 R1 := by
  have b9 := gI_0_9 hI
  have hN : (FI 0 9).toInt = (((FI 0 9).toInt.toNat : Nat) : Int) := by omega
  have hx : x_vw F1 (fun i => (FI 19 i).toInt) (FI 0 9).toInt.toNat := by
    refine ⟨by rw [e13, ← hq.1]; exact hN, by omega, fun i hi => ?_⟩
    obtain ⟨k1, k2, k3⟩ := hq.2 i hi
    exact ⟨by rw [e126, ← k1], k2, k3⟩
  obtain ⟨K, W, P, T, r1', r2', r3', a2, h2⟩ := cE _ _ hx
  obtain ⟨a1, h1⟩ := cD _ _ K W P T hN (fun i hi => ⟨rfl, (hq.2 i hi).2.1, (hq.2 i hi).2.2⟩) r1' r2' r3'
  have h1 := h1 (a1 + a2) (by omega)
  have h2 := h2 (a1 + a2) (by omega)
  obtain ⟨K0, W0, T0, V0, w1, w2⟩ := hu
  generalize lp_tx K W (a1 + a2) 1100 0 [] = r at h1 h2
  match r, h1, h2 with
  | none, h1, h2 => exact ⟨K0, W0, T0, V0, h2.2 _ _ _ _ (u1 _ _ _ _ w1), v2 _ (h1.2 _ w2)⟩
  | some V, h1, h2 =>
    rcases h1 with ⟨⟨x, x1, x2⟩, -, g1⟩ | ⟨g1, g2⟩
    · rcases h2 with ⟨-, -, k1⟩ | ⟨k1, k2⟩
      · exact ⟨K0, W0, T0, V0, k1 _ _ _ _ (u1 _ _ _ _ w1), v2 _ (g1 _ w2)⟩
      · exact absurd (k1 x x1) x2
    · rcases h2 with ⟨⟨x, x1, x2⟩, -, -⟩ | ⟨k1, k2⟩
      · exact absurd (g1 x x1) x2
      · exact ⟨K, W, T, V, k2, v2 _ g2⟩
