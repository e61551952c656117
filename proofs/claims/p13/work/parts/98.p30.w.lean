/-! How many letters the tokens take: what compile writes is at most four times that. -/
def wl (k w : Int) : Int := if k = 5 ∧ w = 256 then 2 else if k = 3 ∧ 65535 < w then 3 else 1
def rl_w (T : Int32) (k : Nat → Int32) (w : Nat → Int64) (a : Nat → Int32) : Prop := ∀ i : Nat, (i : Int) < T.toInt → (0 ≤ (a i).toInt ∧ (a i).toInt ≤ 1000) ∧ ((i : Int) + 1 < T.toInt → (a i).toInt + wl (k i).toInt (w i).toInt ≤ (a (i + 1)).toInt)
theorem wl_1 (k w : Int) : 1 ≤ wl k w := by unfold wl; split; { omega }; { split <;> omega }
theorem wl_2 {k w : Int} (hk : k = 5) (hw : w = 256) : wl k w = 2 := by unfold wl; rw [if_pos ⟨hk, hw⟩]
theorem wl_3 {k w : Int} (hk : k = 3) : (w ≤ 65535 → 1 ≤ wl k w) ∧ (65535 < w → wl k w = 3) := by
  refine ⟨fun _ => wl_1 k w, fun h => ?_⟩
  unfold wl
  rw [if_neg (by omega), if_pos ⟨hk, h⟩]
/-! one token more -/
def rl_wx (T : Int32) (k : Nat → Int32) (w : Nat → Int64) (a : Nat → Int32) (x : Int) : Prop := 0 < T.toInt → (a (T.toInt - 1).toNat).toInt + wl (k (T.toInt - 1).toNat).toInt (w (T.toInt - 1).toNat).toInt ≤ x
section WT
variable {T : Int32} {k a : Nat → Int32} {w : Nat → Int64}
theorem rl_w_0 (h : T.toInt = 0) : rl_w T k w a := fun i hi => by omega
theorem rl_wx_0 {x : Int} (h : T.toInt = 0) : rl_wx T k w a x := fun hi => by omega
theorem rl_wx_le {x y : Int} (h : rl_wx T k w a x) (hy : x ≤ y) : rl_wx T k w a y := fun h0 => by have := h h0; omega
theorem rl_w_up {T2 kk at_ : Int32} {ww : Int64} (h : rl_w T k w a) (h0 : 0 ≤ T.toInt) (h1 : T2.toInt = T.toInt + 1) (hx : rl_wx T k w a at_.toInt) (ha : 0 ≤ at_.toInt ∧ at_.toInt ≤ 1000) : rl_w T2 (va_up k T.toNatClampNeg kk) (va_up w T.toNatClampNeg ww) (va_up a T.toNatClampNeg at_) := by
  have e : T.toNatClampNeg = T.toInt.toNat := i_cl rfl
  intro i hi
  by_cases ei : i = T.toNatClampNeg
  · subst ei
    refine ⟨by simp only [va_up, if_pos]; exact ha, fun h9 => by omega⟩
  · have h2 := h i (by omega)
    refine ⟨by simp only [va_up, if_neg ei]; exact h2.1, fun h9 => ?_⟩
    by_cases ej : i + 1 = T.toNatClampNeg
    · have h3 := hx (by omega)
      rw [show (T.toInt - 1).toNat = i by omega] at h3
      simp only [va_up, if_neg ei, if_pos ej]
      exact h3
    · simp only [va_up, if_neg ei, if_neg ej]
      exact h2.2 (by omega)
theorem rl_wx_up {T2 kk at_ : Int32} {ww : Int64} {x : Int} (h0 : 0 ≤ T.toInt) (h1 : T2.toInt = T.toInt + 1) (hx : at_.toInt + wl kk.toInt ww.toInt ≤ x) : rl_wx T2 (va_up k T.toNatClampNeg kk) (va_up w T.toNatClampNeg ww) (va_up a T.toNatClampNeg at_) x := by
  have e : T.toNatClampNeg = T.toInt.toNat := i_cl rfl
  intro _
  rw [show (T2.toInt - 1).toNat = T.toNatClampNeg by omega]
  simp only [va_up, if_pos]
  exact hx
end WT
theorem t10_3 {x d : Int} (h : x < t10 d) (hx : 65535 < x) : 3 ≤ d := by
  rcases Int.lt_or_le d 3 with h1 | h1
  · exfalso
    have h2 : (min d 18).toNat = 0 ∨ (min d 18).toNat = 1 ∨ (min d 18).toNat = 2 := by omega
    unfold t10 at h
    rcases h2 with h2 | h2 | h2 <;> rw [h2] at h <;> omega
  · exact h1
theorem wl_le {k w n : Int} (h1 : 1 ≤ n) (h2 : k = 5 ∧ w = 256 → 2 ≤ n) (h3 : k = 3 ∧ 65535 < w → 3 ≤ n) : wl k w ≤ n := by
  unfold wl
  split
  · rename_i h; exact h2 h
  · split
    · rename_i h; exact h3 h
    · exact h1
