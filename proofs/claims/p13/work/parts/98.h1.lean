theorem gK_mv {n : Nat} {SH : Nat → Nat × Nat} {FI FI2 : Nat → Nat → Int32} {L : List (Nat × Nat)} {A T : List Nat} (hS : h_S n SH) (h : g_K FI) (f : g_fr n (shd SH) L A T FI FI2) (m : (L.all (fun p => p.1 == 110 || p.1 == 0 || p.1 == 119) && (A.all (fun q => q == 118 || q == 120) && T.isEmpty)) = true) : g_K FI2 := by
  rw [Bool.and_eq_true, Bool.and_eq_true] at m
  obtain ⟨m1, m2, m3⟩ := m
  have hT : T = [] := List.isEmpty_iff.mp m3
  have key : ∀ c k, c = 111 ∨ c = 112 ∨ c = 114 ∨ c = 115 → FI2 c k = FI c k := by
    intro c k hc
    have hn := hS.1
    refine f c k (by omega) (fun h => ?_) (fun h => ?_) (by rw [hT]; simp)
    · have h1 := List.all_eq_true.mp m1 (c, k) h
      simp at h1
      omega
    · have h1 := List.all_eq_true.mp m2 c h
      simp at h1
      omega
  unfold g_K
  rw [key 111 4 (by omega)]
  refine ⟨h.1, by rw [key 112 _ (by omega)]; exact h.2.1, fun i hi => ?_⟩
  rw [key 115 i (by omega), key 114 i (by omega)]
  exact h.2.2 i hi
