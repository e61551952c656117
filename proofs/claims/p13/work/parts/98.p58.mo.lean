/-! One step of the walk where an operand is wanted, by the token that stands there. -/
section AUE
variable {K W : Nat → Int} {p q : Nat} {b : Bool} {l m : List Int}
theorem au_st_un (h : au_st K W p true l q b m) (hu : au_un (K p) (W p)) : q = p + 1 ∧ b = true ∧ m = 9 :: l := by
  unfold au_un at hu
  rcases au_st_t h with ⟨-, h⟩ | ⟨h1, h2, -⟩ | ⟨h1, -⟩ | ⟨h1, h2, -⟩
  · exact h
  · omega
  · omega
  · omega
theorem au_st_lp (h : au_st K W p true l q b m) (hk : K p = 5) (hw : W p = 40) : q = p + 1 ∧ b = true ∧ m = -1 :: l := by
  rcases au_st_t h with ⟨h1, -⟩ | ⟨-, -, h⟩ | ⟨h1, -⟩ | ⟨h1, h2, -⟩
  · unfold au_un at h1; omega
  · exact h
  · omega
  · omega
theorem au_st_v (h : au_st K W p true l q b m) (hu : ¬ au_un (K p) (W p)) (hk : K p ≠ 5) : q = p + 1 ∧ b = false ∧ m = au_fin l := by
  rcases au_st_t h with ⟨h1, -⟩ | ⟨h1, -⟩ | ⟨-, h⟩ | ⟨h1, h2, -⟩
  · exact absurd h1 hu
  · omega
  · exact h
  · omega
theorem au_st_rg (h : au_st K W p true l q b m) (hu : ¬ au_un (K p) (W p)) (hk : K p = 5) (hw : W p ≠ 40) : K (p + 1) = 3 ∧ W (p + 1) ≤ 31 ∧ q = p + 2 ∧ b = false ∧ m = au_fin l := by
  rcases au_st_t h with ⟨h1, -⟩ | ⟨-, h1, -⟩ | ⟨h1, -⟩ | ⟨-, -, h⟩
  · exact absurd h1 hu
  · omega
  · omega
  · exact h
end AUE
theorem au_vc_le : ∀ {l : List Int}, au_vc l ≤ l.length
  | [] => Nat.le_refl _
  | x :: l => by
    have := au_vc_le (l := l)
    simp only [au_vc, List.length_cons]
    split <;> omega
