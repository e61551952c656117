/-! THE LAW'S CALLS that speak of the tape's bytes (behind 98.r1, 98.r2 of mode TXT). -/
def c_an (K W : Nat → Int) (r : Int32) : Prop := ∃ F0, ∀ f, F0 ≤ f → match lp_tx K W f 1100 0 [] with
    | none => r = -1
    | some V => ((∃ x, x ∈ V ∧ ¬ v_ok x) ∧ r = -1) ∨ ((∀ x, x ∈ V → v_ok x) ∧ r.toInt = V.length)
theorem an_eq {K W : Nat → Int} {r1 r2 : Int32} (h1 : c_an K W r1) (h2 : c_an K W r2) : r1.toInt = r2.toInt := by
  obtain ⟨a, h1⟩ := h1
  obtain ⟨b, h2⟩ := h2
  have h1 := h1 (a + b) (by omega)
  have h2 := h2 (a + b) (by omega)
  generalize lp_tx K W (a + b) 1100 0 [] = r at h1 h2
  match r, h1, h2 with
  | none, h1, h2 => rw [show r1 = -1 from h1, show r2 = -1 from h2]
  | some V, h1, h2 =>
    rcases h1 with ⟨⟨x, x1, x2⟩, e1⟩ | ⟨g1, e1⟩
    · rcases h2 with ⟨-, e2⟩ | ⟨g2, -⟩
      · rw [e1, e2]
      · exact absurd (g2 x x1) x2
    · rcases h2 with ⟨⟨x, x1, x2⟩, -⟩ | ⟨-, e2⟩
      · exact absurd (g1 x x1) x2
      · rw [e1, e2]
theorem pk_inv {n : Nat} {SH : Nat → Nat × Nat} {FI : Nat → Nat → Int32} {FL : Nat → Nat → Int64} {FR : Nat → Nat → Option Nat} (h : g_INV n SH FI FL FR) : pk n SH FR := ⟨h.1, fun e he _ => h.2.1 e he, h.2.2.2.1.2.2.2⟩
section DT
variable {sk : xK} {base d n sl : Nat} {SH : Nat → Nat × Nat} {FI : Nat → Nat → Int32} {FL : Nat → Nat → Int64} {FR : Nat → Nat → Option Nat}
theorem D_feed (hkb : x_kb sk base) (h : g_INV n SH FI FL FR) (a1 a2 a3 a4 a5 : Int32) : hw sk base (d + 1) none 118 0 [(0, .ref (base + 0)), (1, .int (a1)), (2, .int (a2)), (3, .int (a3)), (4, .int (a4)), (5, .int (a5))] [] (n, sl, SH, FI, FL, FR) (h_I (fun r s => ∃ n' sl' SH' FI' FL' FR', s = (n', sl', SH', FI', FL', FR') ∧ g_INV n' SH' FI' FL' FR' ∧ g_RM n sl FI n' sl' FI' ∧ ((r.toInt = -1 ∧ (FI' 0 9).toInt = (FI 0 9).toInt ∧ 980 < (FI 0 9).toInt) ∨ (r.toInt = (FI 0 9).toInt + 20 ∧ (FI' 0 9).toInt = (FI 0 9).toInt + 20 ∧ (FI 0 9).toInt ≤ 980)) ∧ FI' 121 13 = FI 121 13 ∧ FI' 126 = FI 126 ∧ ∀ N : Nat, (FI 0 9).toInt = N → FI' 19 = (if N ≤ 980 then f_20 (FI 19) N a1 a2 a3 a4 a5 else FI 19))) := by
  refine xw_mono (hw_pw (d_feed h a1 a2 a3 a4 a5) (fun N => rX11_feed hkb a1 a2 a3 a4 a5 n sl SH FI FL FR (pk_inv h))) ?_
  rintro v s ⟨⟨r, rfl, n', sl', SH', FI', FL', FR', rfl, t1, t2, t3, t4, t5⟩, x, s2, e, hR, sm⟩
  refine ⟨r, rfl, n', sl', SH', FI', FL', FR', rfl, t1, t2, t3, t4, t5, fun N hN => ?_⟩
  have b9 := gI_0_9 h.2.2.1
  obtain ⟨F2, rfl, e2⟩ := fq_feed hR hN (by omega)
  rw [h_sm_ia sm (c := 19) (by have := t1.1.1; omega) (s19 t1.1) (s19 h.1)]
  exact e2
theorem E_feed (hkb : x_kb sk base) (h : g_INV n SH FI FL FR) (a1 a2 a3 a4 a5 : Int32) : hw sk base (d + 1) none 154 0 [(0, .ref (base + 121)), (1, .int (a1)), (2, .int (a2)), (3, .int (a3)), (4, .int (a4)), (5, .int (a5))] [] (n, sl, SH, FI, FL, FR) (h_I (fun r s => ∃ FI' FL', s = (n, sl, SH, FI', FL', FR) ∧ g_INV n SH FI' FL' FR ∧ FI' 0 9 = FI 0 9 ∧ ((r.toInt = -1 ∧ (FI' 121 13).toInt = (FI 121 13).toInt ∧ 980 < (FI 121 13).toInt) ∨ (r.toInt = (FI 121 13).toInt + 20 ∧ (FI' 121 13).toInt = (FI 121 13).toInt + 20 ∧ (FI 121 13).toInt ≤ 980)) ∧ FI' 19 = FI 19 ∧ ∀ N : Nat, (FI 121 13).toInt = N → N ≤ 1000 → FI' 126 = (if N ≤ 980 then f_20 (FI 126) N a1 a2 a3 a4 a5 else FI 126))) := by
  refine xw_mono (hw_pw (e_modelFeed h a1 a2 a3 a4 a5) (fun N => rX12_feed hkb a1 a2 a3 a4 a5 n sl SH FI FL FR (pk_inv h))) ?_
  rintro v s ⟨⟨r, rfl, FI', FL', rfl, t1, t2, t3, t4⟩, x, s2, e, hR, sm⟩
  refine ⟨r, rfl, FI', FL', rfl, t1, t2, t3, t4, fun N hN h0 => ?_⟩
  obtain ⟨F2, rfl, e2⟩ := pq_feed hR hN h0
  rw [h_sm_ia sm (c := 126) (by have := h.1.1; omega) (s126 h.1) (s126 h.1)]
  exact e2
theorem D_compile (hkb : x_kb sk base) (h : g_INV n SH FI FL FR) : hw sk base (d + 252) none 146 0 [(0, .ref (base + 0))] [] (n, sl, SH, FI, FL, FR) (h_I (fun r s => ∃ n' sl' SH' FI' FL' FR', s = (n', sl', SH', FI', FL', FR') ∧ g_INV n' SH' FI' FL' FR' ∧ g_RM n sl FI n' sl' FI' ∧ ((FI' 0 9).toInt = 0) ∧ FI' 121 13 = FI 121 13 ∧ FI' 19 = FI 19 ∧ FI' 126 = FI 126 ∧ ∀ (X : Nat → Int) (N : Nat) (K W : Nat → Int) (P : Nat → Nat) (T : Nat), (FI 0 9).toInt = N → (∀ i, i < N → (FI 19 i).toInt = X i ∧ 0 ≤ X i ∧ X i ≤ 255) → (t_tl X N 1001 0).length = T + 1 → tk_ok K W P T → (∀ i x, (t_tl X N 1001 0)[i]? = some x → K i = x.1 ∧ W i = x.2.1) → c_an K W r)) := by
  refine xw_mono (hw_pw (d_compile h) (fun N => rX11_compile hkb n sl SH FI FL FR (pk_inv h))) ?_
  rintro v s ⟨⟨r, rfl, n', sl', SH', FI', FL', FR', rfl, t1, t2, t3, t4, t5, t6⟩, x, s2, e, hR, sm⟩
  refine ⟨r, rfl, n', sl', SH', FI', FL', FR', rfl, t1, t2, t3, t4, t5, t6, fun X N K W P T hN hX hT hk hK => ?_⟩
  have er : r = x := by
    have e : some (Value.int r) = some (Value.int x) := e
    exact Value.int.inj (Option.some.inj e)
  subst er
  have b9 := gI_0_9 h.2.2.1
  obtain ⟨n2, sl2, SH2, F2, L2, R2, rfl, -, -, F0, res⟩ := s_compile h.1 hR hN (by omega) hX hK hk hT
  refine ⟨F0, fun f hf => ?_⟩
  have q := res f hf
  generalize lp_tx K W f 1100 0 [] = o at q
  match o, q with
  | none, q => exact q.1
  | some V, q =>
    rcases q with ⟨q1, q2, -⟩ | ⟨q1, q2, -⟩
    · exact Or.inl ⟨q1, q2⟩
    · exact Or.inr ⟨q1, q2⟩
theorem E_compile (hkb : x_kb sk base) (h : g_INV n SH FI FL FR) : hw sk base (d + 11) none 225 0 [(0, .ref (base + 121))] [] (n, sl, SH, FI, FL, FR) (h_I (fun r s => ∃ FI' FL', s = (n, sl, SH, FI', FL', FR) ∧ g_INV n SH FI' FL' FR ∧ FI' 0 9 = FI 0 9 ∧ ((FI' 121 13).toInt = 0) ∧ FI' 19 = FI 19 ∧ FI' 126 = FI 126 ∧ ∀ (X : Nat → Int) (N : Nat), x_vw FI X N → ∃ K W P T, (t_tl X N 1001 0).length = T + 1 ∧ tk_ok K W P T ∧ (∀ i x, (t_tl X N 1001 0)[i]? = some x → K i = x.1 ∧ W i = x.2.1) ∧ c_an K W r)) := by
  refine xw_mono (hw_pw (e_compile h) (fun N => rX12_compile hkb n sl SH FI FL FR (pk_inv h))) ?_
  rintro v s ⟨⟨r, rfl, FI', FL', rfl, t1, t2, t3, t4, t5⟩, x, s2, e, hR, sm⟩
  refine ⟨r, rfl, FI', FL', rfl, t1, t2, t3, t4, t5, fun X N hx => ?_⟩
  have er : r = x := by
    have e : some (Value.int r) = some (Value.int x) := e
    exact Value.int.inj (Option.some.inj e)
  subst er
  obtain ⟨K, W, P, T, r1, r2, r3, res⟩ := r_compile h.1 hR hx h.2.2.2.2.2.2.2.2.2.2.1
  refine ⟨K, W, P, T, r1, r2, r3, 12 * T + 21, fun f hf => ?_⟩
  have q := res f (by omega)
  generalize lp_tx K W f 1100 0 [] = o at q
  match o, q with
  | none, q => exact q.1
  | some V, q =>
    rcases q with ⟨q1, q2, -⟩ | ⟨q1, q2, -⟩
    · exact Or.inl ⟨q1, q2⟩
    · exact Or.inr ⟨q1, q2⟩
end DT
/-- one answer -/
theorem cp_eq {FI F1 : Nat → Nat → Int32} {r1 r2 : Int32} (hq : g_TP FI) (hI : g_I FI) (e13 : F1 121 13 = FI 121 13) (e126 : F1 126 = FI 126) (cD : ∀ (X : Nat → Int) (N : Nat) (K W : Nat → Int) (P : Nat → Nat) (T : Nat), (FI 0 9).toInt = N → (∀ i, i < N → (FI 19 i).toInt = X i ∧ 0 ≤ X i ∧ X i ≤ 255) → (t_tl X N 1001 0).length = T + 1 → tk_ok K W P T → (∀ i x, (t_tl X N 1001 0)[i]? = some x → K i = x.1 ∧ W i = x.2.1) → c_an K W r1) (cE : ∀ (X : Nat → Int) (N : Nat), x_vw F1 X N → ∃ K W P T, (t_tl X N 1001 0).length = T + 1 ∧ tk_ok K W P T ∧ (∀ i x, (t_tl X N 1001 0)[i]? = some x → K i = x.1 ∧ W i = x.2.1) ∧ c_an K W r2) : r1.toInt = r2.toInt := by
  have b9 := gI_0_9 hI
  have hN : (FI 0 9).toInt = (((FI 0 9).toInt.toNat : Nat) : Int) := by omega
  have hx : x_vw F1 (fun i => (FI 19 i).toInt) (FI 0 9).toInt.toNat := by
    refine ⟨by rw [e13, ← hq.1]; exact hN, by omega, fun i hi => ?_⟩
    obtain ⟨k1, k2, k3⟩ := hq.2 i hi
    exact ⟨by rw [e126, ← k1], k2, k3⟩
  obtain ⟨K, W, P, T, r1', r2', r3', an⟩ := cE _ _ hx
  exact an_eq (cD _ _ K W P T hN (fun i hi => ⟨rfl, (hq.2 i hi).2.1, (hq.2 i hi).2.2⟩) r1' r2' r3') an
