theorem gT_ex {n n2 : Nat} {SH SH2 : Nat → Nat × Nat} {FI FI2 : Nat → Nat → Int32} {FR FR2 : Nat → Nat → Option Nat} {gp gw gs : Nat → Nat} (hS : h_S n SH) (hR : g_R n SH FR) (H : g_T n SH FI FR gp gw gs) (ex : g_ex n SH n2 SH2) (ht : ∀ c, n ≤ c → c < n2 → (SH2 c).1 ≠ 3 ∧ (SH2 c).1 ≠ 6) (eI : ∀ c, c < n → (SH c).1 = 3 → FI2 c 0 = FI c 0) (eR : ∀ c k, c < n → (SH c).1 = 3 ∨ (SH c).1 = 6 → FR2 c k = FR c k) : g_T n2 SH2 FI2 FR2 gp gw gs := by
  have hx := ex.1
  refine ⟨fun d hd hsd => ?_, fun p hp hsp => ?_⟩
  · have hd' : d < n := by
      rcases Nat.lt_or_ge d n with h | h
      · exact h
      · exact absurd hsd (ht d h hd).1
    rw [ex.2 d hd'] at hsd
    obtain ⟨a1, a2, a3, a4, a5, a6⟩ := H.1 d hd' hsd
    simp only [eR d _ hd' (Or.inl hsd), eI d hd' hsd]
    refine ⟨a1, a2, a3, a4, by omega, fun h1 h2 => ?_⟩
    rw [ex.2 _ a5] at h1
    rw [eI _ a5 h1] at h2
    exact a6 h1 h2
  · have hp' : p < n := by
      rcases Nat.lt_or_ge p n with h | h
      · exact h
      · exact absurd hsp (ht p h hp).2
    rw [ex.2 p hp'] at hsp
    have hp0 : 176 ≤ p := g_dynt hS hsp (by decide +kernel)
    obtain ⟨a1, a2, a3, a4, a5⟩ := H.2 p hp' hsp
    simp only [eR p _ hp' (Or.inr hsp)]
    exact ⟨a1, fun y e => by rw [ex.2 y (gR_t hR hp' hp0 hsp e).1]; exact a2 y e, a3, a4, a5⟩
