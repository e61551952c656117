/-! Tokens: what the reference's arrays of tokens hold. -/
def rl_t (k : Nat → Int32) (w : Nat → Int64) : Prop := ∀ i : Nat, ((k i).toInt = 3 → 0 ≤ (w i).toInt ∧ (w i).toInt ≤ 999999999999999999) ∧ ((k i).toInt = 4 → 1 ≤ (w i).toInt ∧ (w i).toInt ≤ 8)
theorem rl_t_up {k : Nat → Int32} {w : Nat → Int64} {i : Nat} {x : Int32} {y : Int64} (h : rl_t k w) (h3 : x.toInt = 3 → 0 ≤ y.toInt ∧ y.toInt ≤ 999999999999999999) (h4 : x.toInt = 4 → 1 ≤ y.toInt ∧ y.toInt ≤ 8) : rl_t (va_up k i x) (va_up w i y) := by
  intro q
  by_cases e : q = i
  · subst e; simp only [va_up, if_pos]; exact ⟨h3, h4⟩
  · simp only [va_up, if_neg e]; exact h q
/-- the last token is the end -/
def rl_e (k : Nat → Int32) (n : Int32) : Prop := 1 ≤ n.toInt ∧ k (n.toInt - 1).toNat = 0
theorem rl_e_ne {k : Nat → Int32} {n t : Int32} (h : rl_e k n) (ht : (k t.toNatClampNeg).toInt ≠ 0) : t.toInt ≠ n.toInt - 1 := by
  intro e
  apply ht
  rw [i_cl (rfl : t.toInt = t.toInt), e, h.2]
  decide
def t10 (k : Int) : Int := (10 : Int) ^ (min k 18).toNat
theorem t10_s {v k d : Int} (h : v < t10 k) (h0 : 0 ≤ k) (h1 : k < 18) (hd : d ≤ 9) : 10 * v + d < t10 (k + 1) := by
  unfold t10 at *
  have e1 : min k 18 = k := by omega
  have e2 : min (k + 1) 18 = k + 1 := by omega
  rw [e1] at h
  rw [e2, show (k + 1).toNat = k.toNat + 1 by omega, Int.pow_succ]
  omega
theorem t10_k {v k : Int} (h : v < t10 k) (h1 : 18 ≤ k) : v < t10 (k + 1) := by
  unfold t10 at *
  rw [show min (k + 1) 18 = 18 by omega]
  rwa [show min k 18 = 18 by omega] at h
theorem t10_le {v k : Int} (h : v < t10 k) (h0 : 0 ≤ k) : v ≤ 999999999999999999 := by
  have : ∀ j : Nat, j ≤ 18 → (10 : Int) ^ j ≤ 1000000000000000000 := by decide
  have := this (min k 18).toNat (by omega)
  unfold t10 at h
  omega
theorem t10_17 {v k : Int} (h : v < t10 k) (h0 : 0 ≤ k) (h1 : k < 18) : v ≤ 99999999999999999 := by
  have : ∀ j : Nat, j ≤ 17 → (10 : Int) ^ j ≤ 100000000000000000 := by decide
  have := this (min k 18).toNat (by omega)
  unfold t10 at h
  omega
