/-! The desk's variables; a text's variables and their codes. -/
def g_V (SH : Nat → Nat × Nat) (FI : Nat → Nat → Int32) (FR : Nat → Nat → Option Nat) : Prop := ∃ v, FR 0 11 = some v ∧ ∀ i : Nat, (i : Int) < (FI 0 12).toInt → 176 ≤ v ∧ ∃ r, FR v i = some r ∧ 176 ≤ r ∧ g_Vv SH FR r ∧ ∃ k, FR r 6 = some k
def g_CD (FR : Nat → Nat → Option Nat) (m : Int) : Prop := ∀ i : Nat, (i : Int) < m → ∃ pv v k, FR 110 2 = some pv ∧ FR pv i = some v ∧ FR v 6 = some k
theorem tag_ne {SH : Nat → Nat × Nat} {c t z k : Nat} (h : SH c = (t, z)) (ht : t ≠ k) : (SH c).1 ≠ k := by rw [h]; exact ht
section GM
variable {n n2 lo : Nat} {SH SH2 : Nat → Nat × Nat} {FI FI2 : Nat → Nat → Int32} {FR FR2 : Nat → Nat → Option Nat} {v : Nat} {o : Option Nat} {cn m : Int}
theorem gR_o {c k r : Nat} (hR : g_R n SH FR) (hc : c < n) (ho : own c) (e : FR c k = some r) : r < n ∧ own r ∧ (SH r).1 = g_ty (SH c).1 k := by
  obtain ⟨a, b, d, -⟩ := hR.2.1 c k r hc ho e
  exact ⟨a, b, d⟩
theorem gPV_gr (hS : h_S n SH) (hR : g_R n SH FR) (ex : g_ex n SH n2 SH2) (f : g_fr n (shd SH) [] [] [] FR FR2) (h : g_PV lo SH FR cn) : g_PV lo SH2 FR2 cn := by
  obtain ⟨pv, e1, e2, e3, e4, e5⟩ := h
  have hn := hS.1
  have eq : ∀ c k, c < n → FR2 c k = FR c k := fun c k hc => f c k hc (by simp) (by simp) (by simp)
  have hp := gR_o hR (c110 hS) (Or.inl (by decide)) e1
  refine ⟨pv, by rw [eq 110 2 (by omega)]; exact e1, by rw [ex.2 pv hp.1]; exact e2, e3, e4, fun i hi => ?_⟩
  obtain ⟨v, g1, g2, g3, g4⟩ := e5 i hi
  have hv := gR_o hR hp.1 hp.2.1 g1
  exact ⟨v, by rw [eq pv i hp.1]; exact g1, g2, g3, gV_gr hR hv.1 hv.2.1 ex (fun k => eq v k hv.1) g4⟩
theorem gPV_cd (hS : h_S n SH) (hv : (SH v).1 = 10) (u : FR2 = h_up FR v 6 o) (h : g_PV lo SH FR cn) : g_PV lo SH FR2 cn := by
  obtain ⟨pv, e1, e2, e3, e4, e5⟩ := h
  have h1 : 110 ≠ v := fun e => by rw [← e, s110 hS] at hv; cases hv
  have h2 : pv ≠ v := fun e => by rw [← e, e2] at hv; cases hv
  refine ⟨pv, up_c u h1 e1, e2, e3, e4, fun i hi => ?_⟩
  obtain ⟨w, g1, g2, g3, g4⟩ := e5 i hi
  refine ⟨w, up_c u h2 g1, g2, g3, ?_⟩
  have eq : ∀ k, k ≠ 6 → FR2 w k = FR w k := fun k hk => by
    by_cases hw : w = v
    · subst hw; exact up_k u hk rfl
    · exact up_c u hw rfl
  unfold g_Vv
  rw [eq 2 (by decide), eq 3 (by decide), eq 4 (by decide), eq 0 (by decide)]
  exact g4
theorem gCD_gr (hS : h_S n SH) (hR : g_R n SH FR) (f : g_fr n (shd SH) [] [] [] FR FR2) (h : g_CD FR m) : g_CD FR2 m := fun i hi => by
  obtain ⟨pv, v, k, e1, e2, e3⟩ := h i hi
  have eq : ∀ c k, c < n → FR2 c k = FR c k := fun c k hc => f c k hc (by simp) (by simp) (by simp)
  have hp := gR_o hR (c110 hS) (Or.inl (by decide)) e1
  have hv := gR_o hR hp.1 hp.2.1 e2
  exact ⟨pv, v, k, by rw [eq _ _ (c110 hS)]; exact e1, by rw [eq _ _ hp.1]; exact e2, by rw [eq _ _ hv.1]; exact e3⟩
theorem gCD_cd {pv k j : Nat} (hS : h_S n SH) (hv : (SH v).1 = 10) (hp : (SH pv).1 = 104) (e1 : FR 110 2 = some pv) (e2 : FR pv j = some v) (hj : (j : Int) = m) (u : FR2 = h_up FR v 6 (some k)) (h : g_CD FR m) : g_CD FR2 (m + 1) := fun i hi => by
  have h1 : 110 ≠ v := fun e => by rw [← e, s110 hS] at hv; cases hv
  have h2 : pv ≠ v := fun e => by rw [← e, hp] at hv; cases hv
  by_cases hij : i = j
  · subst hij
    exact ⟨pv, v, k, up_c u h1 e1, up_c u h2 e2, up_eq u⟩
  · obtain ⟨pv2, v2, k2, g1, g2, g3⟩ := h i (by omega)
    rw [e1] at g1
    cases g1
    by_cases hw : v2 = v
    · subst hw
      exact ⟨pv, v2, k, up_c u h1 e1, up_c u h2 g2, up_eq u⟩
    · exact ⟨pv, v2, k2, up_c u h1 e1, up_c u h2 g2, up_c u hw g3⟩
theorem gV_old {L : List (Nat × Nat)} {A T : List Nat} (hS : h_S n SH) (hR : g_R n SH FR) (ex : g_ex n SH n2 SH2) (h : g_V SH FI FR) (hI : FI2 0 12 = FI 0 12) (h11 : FR2 0 11 = FR 0 11) (old : ∀ c k, c < n → (SH c).1 = 104 → 176 ≤ c → FR2 c k = FR c k) (f : g_fr n (shd SH) L A T FR FR2) (m : g_low L A T [1010] = true) : g_V SH2 FI2 FR2 := by
  obtain ⟨v, e1, e2⟩ := h
  have hv := gR_o hR (c0 hS) (Or.inl (by decide)) e1
  rw [s0 hS] at hv
  refine ⟨v, by rw [h11]; exact e1, fun i hi => ?_⟩
  rw [hI] at hi
  obtain ⟨g0, r, g1, g2, g3, k, g4⟩ := e2 i hi
  have hr := gR_o hR hv.1 hv.2.1 g1
  have ht : (SH r).1 = 10 := by rw [hr.2.2, hv.2.2]; rfl
  have eq : ∀ k, FR2 r k = FR r k := fun k => g_low_at (t := 1010) f m hr.1 g2 (by rw [ht]) (by decide)
  exact ⟨g0, r, by rw [old v i hv.1 hv.2.2 g0]; exact g1, g2, gV_gr hR hr.1 hr.2.1 ex eq g3, k, by rw [eq]; exact g4⟩
theorem gV_new (hR : g_R n SH FR) (hS : h_S n SH) (h : g_PV lo SH FR cn) (hc : g_CD FR cn) (e0 : FR2 0 11 = FR 110 2) (eq : ∀ c k, 0 < c → FR2 c k = FR c k) (hI : (FI2 0 12).toInt = cn) : g_V SH FI2 FR2 := by
  obtain ⟨pv, e1, e2, e3, e4, e5⟩ := h
  refine ⟨pv, by rw [e0]; exact e1, fun i hi => ⟨e3, ?_⟩⟩
  rw [hI] at hi
  obtain ⟨v, g1, g2, g3, g4⟩ := e5 i hi
  obtain ⟨pv2, v2, k, q1, q2, q3⟩ := hc i hi
  rw [e1] at q1
  cases q1
  rw [g1] at q2
  cases q2
  have ev : ∀ k, FR2 v k = FR v k := fun k => eq v k (by omega)
  refine ⟨v, by rw [eq pv i (by omega)]; exact g1, g3, ?_, k, by rw [ev]; exact q3⟩
  unfold g_Vv
  simp only [ev]
  exact g4
end GM
