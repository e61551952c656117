/-! One step of the walk, by the token that stands there. -/
section AUD
variable {K W : Nat → Int} {p q : Nat} {b : Bool} {l m : List Int}
theorem au_st_bin {c : Int} (h : au_st K W p false l q b m) (hb : au_bn (K p) (W p) = c) (hc : c ≠ 0) : q = p + 1 ∧ b = true ∧ m = c :: au_red c l := by
  rcases h with ⟨h, -⟩ | ⟨h, -⟩ | ⟨h, -⟩ | ⟨h, -⟩ | ⟨-, h1, h2, h3, h4⟩ | ⟨-, h1, h2, -⟩ | ⟨-, h1, h2, -⟩ | ⟨-, h1, h2, -⟩
  · cases h
  · cases h
  · cases h
  · cases h
  · exact ⟨h2, h3, by rw [← hb]; exact h4⟩
  · exact absurd (by rw [← hb, h1, h2]; decide) hc
  · exact absurd (by rw [← hb, h1, h2]; decide) hc
  · exact absurd (by rw [← hb, h1, h2]; decide) hc
theorem au_st_qm (h : au_st K W p false l q b m) (hk : K p = 5) (hw : W p = 63) : q = p + 1 ∧ b = true ∧ m = -2 :: au_red 1 l := by
  rcases h with ⟨h, -⟩ | ⟨h, -⟩ | ⟨h, -⟩ | ⟨h, -⟩ | ⟨-, h1, -⟩ | ⟨-, h1, h2, h3, h4, h5⟩ | ⟨-, h1, h2, -⟩ | ⟨-, h1, h2, -⟩
  · cases h
  · cases h
  · cases h
  · cases h
  · exact absurd (by rw [hk, hw]; decide) h1
  · exact ⟨h3, h4, h5⟩
  · omega
  · omega
theorem au_st_co (h : au_st K W p false l q b m) (hk : K p = 5) (hw : W p = 58) : ∃ r, au_all l = -2 :: r ∧ q = p + 1 ∧ b = true ∧ m = -3 :: r := by
  rcases h with ⟨h, -⟩ | ⟨h, -⟩ | ⟨h, -⟩ | ⟨h, -⟩ | ⟨-, h1, -⟩ | ⟨-, h1, h2, -⟩ | ⟨-, h1, h2, ⟨r, h3, h4⟩, h5, h6⟩ | ⟨-, h1, h2, -⟩
  · cases h
  · cases h
  · cases h
  · cases h
  · exact absurd (by rw [hk, hw]; decide) h1
  · omega
  · exact ⟨r, h3, h5, h6, h4⟩
  · omega
theorem au_st_rp (h : au_st K W p false l q b m) (hk : K p = 5) (hw : W p = 41) : ∃ r, au_all l = -1 :: r ∧ q = p + 1 ∧ b = false ∧ m = au_fin r := by
  rcases h with ⟨h, -⟩ | ⟨h, -⟩ | ⟨h, -⟩ | ⟨h, -⟩ | ⟨-, h1, -⟩ | ⟨-, h1, h2, -⟩ | ⟨-, h1, h2, -⟩ | ⟨-, h1, h2, ⟨r, h3, h4⟩, h5, h6⟩
  · cases h
  · cases h
  · cases h
  · cases h
  · exact absurd (by rw [hk, hw]; decide) h1
  · omega
  · omega
  · exact ⟨r, h3, h5, h6, h4⟩
theorem au_st_no (h : au_st K W p false l q b m) (hb : au_bn (K p) (W p) = 0) (hq : ¬ (K p = 5 ∧ W p = 63)) : (K p = 5 ∧ W p = 58) ∨ (K p = 5 ∧ W p = 41) := by
  rcases h with ⟨h, -⟩ | ⟨h, -⟩ | ⟨h, -⟩ | ⟨h, -⟩ | ⟨-, h1, -⟩ | ⟨-, h1, h2, -⟩ | ⟨-, h1, h2, -⟩ | ⟨-, h1, h2, -⟩
  · cases h
  · cases h
  · cases h
  · cases h
  · exact absurd hb h1
  · exact absurd ⟨h1, h2⟩ hq
  · exact Or.inl ⟨h1, h2⟩
  · exact Or.inr ⟨h1, h2⟩
theorem au_st_t (h : au_st K W p true l q b m) : (au_un (K p) (W p) ∧ q = p + 1 ∧ b = true ∧ m = 9 :: l) ∨ (K p = 5 ∧ W p = 40 ∧ q = p + 1 ∧ b = true ∧ m = -1 :: l) ∨ ((K p = 3 ∨ (K p = 2 ∧ (W p = 4 ∨ W p = 5 ∨ W p = 6))) ∧ q = p + 1 ∧ b = false ∧ m = au_fin l) ∨ (K p = 5 ∧ W p = 37 ∧ K (p + 1) = 3 ∧ W (p + 1) ≤ 31 ∧ q = p + 2 ∧ b = false ∧ m = au_fin l) := by
  rcases h with ⟨-, h⟩ | ⟨-, h⟩ | ⟨-, h⟩ | ⟨-, h⟩ | ⟨h, -⟩ | ⟨h, -⟩ | ⟨h, -⟩ | ⟨h, -⟩
  · exact Or.inl h
  · exact Or.inr (Or.inl h)
  · exact Or.inr (Or.inr (Or.inl h))
  · exact Or.inr (Or.inr (Or.inr h))
  · cases h
  · cases h
  · cases h
  · cases h
end AUD
def q37 (k : Int) : Int := (37 : Int) ^ k.toNat
theorem q37_0 {x : Int} (h : x ≤ 9223372036854775807) : x < q37 (13 - 0) := by
  have : q37 (13 - 0) = 243569224216081305397 := by decide
  omega
theorem q37_s {x k : Int} (h : x < q37 (13 - k)) (h0 : 0 < x) (h1 : k < 13) : x / 37 < q37 (13 - (k + 1)) := by
  unfold q37 at *
  rw [show (13 - k).toNat = (13 - (k + 1)).toNat + 1 by omega, Int.pow_succ] at h
  omega
theorem q37_e {x k : Int} (h : x < q37 (13 - k)) (h1 : 13 ≤ k) : x ≤ 0 := by
  unfold q37 at h
  rw [show (13 - k).toNat = 0 by omega] at h
  omega
theorem au_vc_fin : ∀ {l : List Int}, au_vc (au_fin l) = au_vc l
  | [] => rfl
  | x :: l => by
    unfold au_fin
    rw [List.dropWhile_cons]
    split
    · rename_i hx
      have hx := of_decide_eq_true hx
      subst hx
      rw [show au_vc (9 :: l) = au_vc l from by simp [au_vc]]
      exact au_vc_fin
    · rfl
