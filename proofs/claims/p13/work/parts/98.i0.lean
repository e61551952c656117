/-! Places, variables of a text. -/
section GI
variable {n n2 : Nat} {SH SH2 : Nat → Nat × Nat} {FI FI2 : Nat → Nat → Int32} {FR FR2 : Nat → Nat → Option Nat} {gp gw gs : Nat → Nat} {c z : Nat}
theorem gT_gr (hS : h_S n SH) (hR : g_R n SH FR) (H : g_T n SH FI FR gp gw gs) (hn : n2 = n + 1) (ex : g_ex n SH n2 SH2) (hs : SH2 n = (100, z)) : g_T n2 SH2 FI FR gp gw gs := by
  refine ⟨fun d hd hsd => ?_, fun p hp hsp => ?_⟩
  · have hdn : d ≠ n := fun e => by rw [e, hs] at hsd; cases hsd
    have hd' : d < n := by omega
    rw [ex.2 d hd'] at hsd
    obtain ⟨a1, a2, a3, a4, a5, a6⟩ := H.1 d hd' hsd
    exact ⟨a1, a2, a3, a4, by omega, fun ht hh => a6 (by rw [← ex.2 _ a5]; exact ht) hh⟩
  · have hpn : p ≠ n := fun e => by rw [e, hs] at hsp; cases hsp
    have hp' : p < n := by omega
    rw [ex.2 p hp'] at hsp
    have hp0 : 176 ≤ p := g_dynt hS hsp (by decide +kernel)
    obtain ⟨a1, a2, a3, a4, a5⟩ := H.2 p hp' hsp
    exact ⟨a1, fun y e => by rw [ex.2 y (gR_t hR hp' hp0 hsp e).1]; exact a2 y e, a3, a4, a5⟩
theorem gR_sub (hR : g_R n SH FR) (hR2 : g_R n2 SH2 FR2) (ex : g_ex n SH n2 SH2) (e : ∀ c k, c < n → 176 ≤ c → (SH c).1 = 3 ∨ (SH c).1 = 6 → FR2 c k = FR c k) : True := trivial
/-- behind a call that made one array: the trees as before -/
theorem gT_ar {L L2 : List (Nat × Nat)} {A T A2 T2 : List Nat} (hS : h_S n SH) (hR : g_R n SH FR) (H : g_T n SH FI FR gp gw gs) (hn : n2 = n + 1) (ex : g_ex n SH n2 SH2) (hs : SH2 n = (100, z)) (f : g_fr n (shd SH) L A T FI FI2) (f2 : g_fr n (shd SH) L2 A2 T2 FR FR2) (m : g_low L A T [1003] = true) (m2 : g_low L2 A2 T2 [1003, 1006] = true) : g_T n2 SH2 FI2 FR2 gp gw gs := by
  have h1 : g_T n2 SH2 FI FR gp gw gs := gT_gr hS hR H hn ex hs
  have k1 : ∀ c, c < n2 → (SH2 c).1 = 3 → FI2 c 0 = FI c 0 := fun c hc hs2 => by
    have hcn : c ≠ n := fun e => by rw [e, hs] at hs2; cases hs2
    rw [ex.2 c (by omega)] at hs2
    exact g_low_at f m (by omega) (g_dynt hS hs2 (by decide +kernel)) (by rw [hs2]) (by decide)
  have k2 : ∀ c k t, c < n2 → (SH2 c).1 = t → t = 3 ∨ t = 6 → FR2 c k = FR c k := fun c k t hc hs2 ht => by
    have hcn : c ≠ n := fun e => by rw [e, hs] at hs2; dsimp only at hs2; omega
    rw [ex.2 c (by omega)] at hs2
    rcases ht with rfl | rfl
    · exact g_low_at f2 m2 (by omega) (g_dynt hS hs2 (by decide +kernel)) (by rw [hs2]) (by decide)
    · exact g_low_at f2 m2 (by omega) (g_dynt hS hs2 (by decide +kernel)) (by rw [hs2]) (by decide)
  refine ⟨fun c hc hs2 => ?_, fun c hc hs2 => ?_⟩
  · obtain ⟨h1, h2, h3, h4, h5, h6⟩ := h1.1 c hc hs2
    simp only [k2 c _ 3 hc hs2 (Or.inl rfl), k1 c hc hs2]
    refine ⟨h1, h2, h3, h4, h5, fun ht hk => h6 ht ?_⟩
    rw [← k1 _ h5 ht]
    exact hk
  · have h2 := h1.2 c hc hs2
    simp only [k2 c _ 6 hc hs2 (Or.inr rfl)]
    exact h2
theorem gK_mx {L : List (Nat × Nat)} {A T : List Nat} (hS : h_S n SH) (h : g_K FI) (f : g_fr n (shd SH) L A T FI FI2) (m : (L.all (fun p => p.1 == 110 || p.1 == 0 || p.1 == 119) && (A.all (fun q => q == 117 || q == 120) && T.all (fun t => decide (1000 ≤ t)))) = true) : g_K FI2 := by
  rw [Bool.and_eq_true, Bool.and_eq_true] at m
  obtain ⟨m1, m2, m3⟩ := m
  have key : ∀ c k, c = 111 ∨ c = 112 ∨ c = 114 ∨ c = 115 → FI2 c k = FI c k := by
    intro c k hc
    have hn := hS.1
    refine f c k (by omega) (fun h => ?_) (fun h => ?_) (fun h => ?_)
    · have h1 := List.all_eq_true.mp m1 (c, k) h
      simp at h1
      omega
    · have h1 := List.all_eq_true.mp m2 c h
      simp at h1
      omega
    · have h1 := of_decide_eq_true (List.all_eq_true.mp m3 _ h)
      unfold shd at h1
      rw [if_neg (by omega), if_neg (by omega)] at h1
      rcases hc with rfl | rfl | rfl | rfl
      · rw [s111 hS] at h1; exact absurd h1 (by decide)
      · rw [s112 hS] at h1; exact absurd h1 (by decide)
      · rw [s114 hS] at h1; exact absurd h1 (by decide)
      · rw [s115 hS] at h1; exact absurd h1 (by decide)
  unfold g_K
  rw [key 111 4 (by omega)]
  refine ⟨h.1, by rw [key 112 _ (by omega)]; exact h.2.1, fun i hi => ?_⟩
  rw [key 115 i (by omega), key 114 i (by omega)]
  exact h.2.2 i hi
theorem gV_gr {v : Nat} (hR : g_R n SH FR) (hv : v < n) (ho : own v) (ex : g_ex n SH n2 SH2) (e : ∀ k, FR2 v k = FR v k) (h : g_Vv SH FR v) : g_Vv SH2 FR2 v := by
  obtain ⟨⟨a, a1, a2⟩, ⟨b, b1, b2⟩, ⟨d, d1, d2⟩, x, x1⟩ := h
  have hl : ∀ k y, FR v k = some y → y < n := fun k y e => (hR.2.1 v k y hv ho e).1
  refine ⟨⟨a, by rw [e]; exact a1, by rw [ex.2 a (hl _ _ a1)]; exact a2⟩, ⟨b, by rw [e]; exact b1, by rw [ex.2 b (hl _ _ b1)]; exact b2⟩, ⟨d, by rw [e]; exact d1, by rw [ex.2 d (hl _ _ d1)]; exact d2⟩, x, by rw [e]; exact x1⟩
end GI
