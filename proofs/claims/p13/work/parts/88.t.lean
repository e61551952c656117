/-! Trees and variables while references of fixed cells change. -/
section GT2
variable {n : Nat} {SH : Nat → Nat × Nat} {FI FI2 : Nat → Nat → Int32} {FR FR2 : Nat → Nat → Option Nat} {gp gw gs : Nat → Nat} {v : Nat}
def g_low (L : List (Nat × Nat)) (A T ts : List Nat) : Bool := L.all (fun p => decide (p.1 < 176)) && (A.all (fun q => decide (q < 176)) && ts.all (fun t => !(T.contains t)))
theorem g_low_at {α : Type} {F F2 : Nat → Nat → α} {L : List (Nat × Nat)} {A T ts : List Nat} {c t k : Nat} (f : g_fr n (shd SH) L A T F F2) (m : g_low L A T ts = true) (hc : c < n) (hd : 176 ≤ c) (ht : (SH c).1 + 1000 = t) (hm : t ∈ ts) : F2 c k = F c k := by
  unfold g_low at m
  rw [Bool.and_eq_true, Bool.and_eq_true] at m
  obtain ⟨m1, m2, m3⟩ := m
  refine f c k hc (fun h => ?_) (fun h => ?_) (fun h => ?_)
  · have := of_decide_eq_true (List.all_eq_true.mp m1 (c, k) h)
    dsimp only at this
    omega
  · have := of_decide_eq_true (List.all_eq_true.mp m2 c h)
    omega
  · unfold shd at h
    rw [if_pos hd] at h
    dsimp only at h
    rw [ht] at h
    have := List.all_eq_true.mp m3 t hm
    simp [h] at this
theorem g_dynt {c t : Nat} (hS : h_S n SH) (hs : (SH c).1 = t) (m : hs_L.all (fun e => e.1 != t) = true) : 176 ≤ c := dyn_tag (z := (SH c).2) hS (Prod.ext hs rfl) m
theorem gT_mw {L L2 : List (Nat × Nat)} {A T A2 T2 : List Nat} (hS : h_S n SH) (h : g_T n SH FI FR gp gw gs) (f : g_fr n (shd SH) L A T FI FI2) (f2 : g_fr n (shd SH) L2 A2 T2 FR FR2) (m : g_low L A T [1003] = true) (m2 : g_low L2 A2 T2 [1003, 1006] = true) : g_T n SH FI2 FR2 gp gw gs := by
  have k1 : ∀ c, c < n → (SH c).1 = 3 → FI2 c 0 = FI c 0 := fun c hc hs => g_low_at f m hc (g_dynt hS hs (by decide +kernel)) (by rw [hs]) (by decide)
  have k2 : ∀ c k, c < n → (SH c).1 = 3 → FR2 c k = FR c k := fun c k hc hs => g_low_at f2 m2 hc (g_dynt hS hs (by decide +kernel)) (by rw [hs]) (by decide)
  have k3 : ∀ c k, c < n → (SH c).1 = 6 → FR2 c k = FR c k := fun c k hc hs => g_low_at f2 m2 hc (g_dynt hS hs (by decide +kernel)) (by rw [hs]) (by decide)
  refine ⟨fun c hc hs => ?_, fun c hc hs => ?_⟩
  · obtain ⟨h1, h2, h3, h4, h5, h6⟩ := h.1 c hc hs
    simp only [k2 c _ hc hs, k1 c hc hs]
    refine ⟨h1, h2, h3, h4, h5, fun ht hk => h6 ht ?_⟩
    rw [← k1 _ h5 ht]
    exact hk
  · have h1 := h.2 c hc hs
    simp only [k3 c _ hc hs]
    exact h1
def g_Vv (SH : Nat → Nat × Nat) (FR : Nat → Nat → Option Nat) (v : Nat) : Prop := (∃ a, FR v 2 = some a ∧ SH a = (101, 8)) ∧ (∃ a, FR v 3 = some a ∧ SH a = (101, 8)) ∧ (∃ a, FR v 4 = some a ∧ SH a = (105, 8)) ∧ ∃ a, FR v 0 = some a
theorem gV_mw {L2 : List (Nat × Nat)} {A2 T2 : List Nat} (hS : h_S n SH) (h : g_Vv SH FR v) (hc : v < n) (hs : (SH v).1 = 10) (f2 : g_fr n (shd SH) L2 A2 T2 FR FR2) (m2 : g_low L2 A2 T2 [1010] = true) : g_Vv SH FR2 v := by
  have k2 : ∀ k, FR2 v k = FR v k := fun k => g_low_at f2 m2 hc (g_dynt hS hs (by decide +kernel)) (by rw [hs]) (by decide)
  unfold g_Vv
  simp only [k2]
  exact h
end GT2
