/-! The variables of a text, while it is read: lo, how many cells there were before. -/
def g_PV (lo : Nat) (SH : Nat → Nat × Nat) (FR : Nat → Nat → Option Nat) (cn : Int) : Prop := ∃ pv, FR 110 2 = some pv ∧ SH pv = (104, 12) ∧ 176 ≤ pv ∧ lo ≤ pv ∧ ∀ i : Nat, (i : Int) < cn → ∃ v, FR pv i = some v ∧ lo ≤ v ∧ 176 ≤ v ∧ g_Vv SH FR v
theorem gK_up {FI FI2 : Nat → Nat → Int32} {c k : Nat} {x : Int32} (h : g_K FI) (hc : c ≠ 111 ∧ c ≠ 112 ∧ c ≠ 114 ∧ c ≠ 115) (u : FI2 = h_up FI c k x) : g_K FI2 := by
  unfold g_K
  rw [up_c u (show 111 ≠ c from fun e => hc.1 e.symm) rfl]
  refine ⟨h.1, by rw [up_c u (show 112 ≠ c from fun e => hc.2.1 e.symm) rfl]; exact h.2.1, fun i hi => ?_⟩
  rw [up_c u (show 115 ≠ c from fun e => hc.2.2.2 e.symm) rfl, up_c u (show 114 ≠ c from fun e => hc.2.2.1 e.symm) rfl]
  exact h.2.2 i hi
theorem gK_nw {FI FI2 : Nat → Nat → Int32} {n : Nat} (h : g_K FI) (hn : 176 ≤ n) (e : ∀ c k, c ≠ n → FI2 c k = FI c k) : g_K FI2 := by
  unfold g_K
  rw [e 111 4 (by omega)]
  refine ⟨h.1, by rw [e 112 _ (by omega)]; exact h.2.1, fun i hi => ?_⟩
  rw [e 115 i (by omega), e 114 i (by omega)]
  exact h.2.2 i hi
