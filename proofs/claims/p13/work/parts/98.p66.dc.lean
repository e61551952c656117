/-! What declared has made so far. -/
def rl_mv (m T : Int32) (k : Nat → Int32) (w : Nat → Int64) (r s : Nat → Int32) : Prop := ∀ i : Nat, (i : Int) < m.toInt → 0 ≤ (r i).toInt ∧ gr_var (kf k) (wf w) (r i).toInt.toNat (s i).toInt.toNat T.toInt.toNat
def rl_mb (m : Int32) (b : Nat → Int32) (n : Int) : Prop := ∀ i : Nat, (i : Int) < m.toInt → (b i).toInt ≤ (b (i + 1)).toInt ∧ (b (i + 1)).toInt ≤ n
section DC
variable {m m2 T t : Int32} {k r r2 s b : Nat → Int32} {w : Nat → Int64}
theorem rl_mv_0 (h : m.toInt = 0) : rl_mv m T k w r s := fun i hi => by omega
theorem rl_mb_0 {n : Int} (h : m.toInt = 0) : rl_mb m b n := fun i hi => by omega
theorem rl_mv_go (h : rl_mv m T k w r s) (m0 : 0 ≤ m.toInt) (e : m2.toInt = m.toInt + 1) (hr : ∀ i, i ≠ m.toNatClampNeg → r2 i = r i) (hn : 0 ≤ (r2 m.toNatClampNeg).toInt ∧ gr_var (kf k) (wf w) (r2 m.toNatClampNeg).toInt.toNat t.toInt.toNat T.toInt.toNat) : rl_mv m2 T k w r2 (va_up s m.toNatClampNeg t) := by
  have e2 : m.toNatClampNeg = m.toInt.toNat := i_cl rfl
  intro i hi
  by_cases ei : i = m.toNatClampNeg
  · subst ei; simp only [va_up, if_pos]; exact hn
  · simp only [va_up, if_neg ei]; rw [hr i ei]; exact h i (by omega)
theorem rl_mv_loc {q : Nat} (h : rl_mv m T k w r s) (m0 : 0 ≤ m.toInt) (e : m2.toInt = m.toInt + 1) (hq : q < T.toInt.toNat) (hl : gr_loc (kf k) (wf w) t.toInt.toNat q) : rl_mv m2 T k w (va_up r m.toNatClampNeg (0 : Int32)) (va_up s m.toNatClampNeg t) := by
  refine rl_mv_go h m0 e (fun i hi => by simp only [va_up, if_neg hi]) ?_
  simp only [va_up, if_pos]
  exact ⟨by decide, Or.inl ⟨by decide, q, hq, hl⟩⟩
theorem rl_mv_rws {q : Nat} (h : rl_mv m T k w r s) (m0 : 0 ≤ m.toInt) (e : m2.toInt = m.toInt + 1) (hr : ∀ i, i ≠ m.toNatClampNeg → r2 i = r i) (hg : gr_rws (kf k) (wf w) (r2 m.toNatClampNeg).toInt.toNat t.toInt.toNat q ∧ 1 ≤ (r2 m.toNatClampNeg).toInt) (hq : q ≤ T.toInt.toNat) : rl_mv m2 T k w r2 (va_up s m.toNatClampNeg t) := by
  refine rl_mv_go h m0 e hr ⟨by omega, Or.inr ⟨?_, q, hq, hg.1⟩⟩
  have := hg.2
  omega
theorem rl_mb_go {x y : Int32} {n : Int} (h : rl_mb m b n) (m0 : 0 ≤ m.toInt) (e : m2.toInt = m.toInt + 1) (hx : n ≤ x.toInt) (hy : x.toInt ≤ y.toInt) : rl_mb m2 (va_up (va_up b m.toNatClampNeg x) m2.toNatClampNeg y) y.toInt := by
  have e1 : m.toNatClampNeg = m.toInt.toNat := i_cl rfl
  have e2 : m2.toNatClampNeg = m2.toInt.toNat := i_cl rfl
  intro i hi
  have n1 : i ≠ m2.toNatClampNeg := by omega
  by_cases ei : i = m.toNatClampNeg
  · have n2 : i + 1 = m2.toNatClampNeg := by omega
    simp only [va_up, if_neg n1, if_pos ei, if_pos n2]
    exact ⟨hy, Int.le_refl _⟩
  · have n2 : i + 1 ≠ m2.toNatClampNeg := by omega
    have h1 := h i (by omega)
    simp only [va_up, if_neg n1, if_neg ei, if_neg n2]
    by_cases ej : i + 1 = m.toNatClampNeg
    · simp only [if_pos ej]; omega
    · simp only [if_neg ej]; omega
end DC
theorem gr_var_mono {K W : Nat → Int} {r s T T2 : Nat} (h : gr_var K W r s T) (hT : T ≤ T2) : gr_var K W r s T2 := by
  rcases h with ⟨h1, q, h2, h3⟩ | ⟨h1, q, h2, h3⟩
  · exact Or.inl ⟨h1, q, by omega, h3⟩
  · exact Or.inr ⟨h1, q, by omega, h3⟩
/-! what compile keeps of it -/
theorem rl_v_of {m T : Int32} {k r s k2 r2 s2 : Nat → Int32} {w w2 : Nat → Int64} (h : rl_mv m T k w r s) (hT : T.toInt ≤ 1001) (hk : ∀ j : Nat, (j : Int) < T.toInt → k2 j = k j ∧ w2 j = w j) (hr : ∀ j : Nat, (j : Int) < m.toInt → r2 j = r j ∧ s2 j = s j) : rl_v m k2 w2 r2 s2 := by
  intro i hi
  have h1 := h i hi
  rw [(hr i hi).1, (hr i hi).2]
  refine ⟨h1.1, gr_var_mono (gr_var_tr (T := T.toInt.toNat) (fun j hj => ?_) h1.2) (by omega)⟩
  have h2 := hk j (by omega)
  exact ⟨congrArg Int32.toInt h2.1, congrArg Int64.toInt h2.2⟩
