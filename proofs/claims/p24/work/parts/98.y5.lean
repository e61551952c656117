/-! location, to its end. -/
theorem tk_P_le {K W : Nat → Int} {P : Nat → Nat} {T : Nat} (hP : tk_P K W P) (hn : ∀ i, i < T → K i ≠ 0) {i : Nat} : ∀ {j : Nat}, i ≤ j → j ≤ T → P i ≤ P j
  | 0, h, _ => by rw [show i = 0 by omega]; exact Nat.le_refl _
  | j + 1, h, h2 => by
    by_cases e : i = j + 1
    · subst e; exact Nat.le_refl _
    · have := tk_P_le hP hn (i := i) (j := j) (by omega) (by omega)
      have := (hP j (hn j (by omega))).1
      omega
section LO2
variable {K W : Nat → Int} {P : Nat → Nat} {n sl : Nat} {SH : Nat → Nat × Nat} {FI : Nat → Nat → Int32} {FL : Nat → Nat → Int64} {FR : Nat → Nat → Option Nat} {t T f : Nat} {o : Int} {B : List Int} {s : hS}
/-- what is given of the tokens -/
def tk_ok (K W : Nat → Int) (P : Nat → Nat) (T : Nat) : Prop := tk_rg K W ∧ tk_P K W P ∧ K T = 0 ∧ T ≤ 1001 ∧ (∀ i, i < T → K i ≠ 0) ∧ P T ≤ 1000
def q_loc (K W : Nat → Int) (FI : Nat → Nat → Int32) (T md t : Nat) (B : List Int) (s : hS) (r : Option (Nat × List Int)) : Prop := match r with
  | none => (s.2.2.2.1 121 69).toInt ≠ 0
  | some (t1, c) => t < t1 ∧ t1 ≤ T ∧ ((au_bn (K t1) (W t1) = 4 ∧ (s.2.2.2.1 121 69).toInt ≠ 0) ∨ (d_vw K W s.2.2.2.1 s.2.2.2.2.1 t1 0 (B ++ c) ∧ s.2.2.2.1 163 = (if 300 < c.length then va_up (FI 163) md 1 else FI 163)))
theorem d_location {v : Unit} {md : Nat} (h : RX12_location n sl SH FI FL FR v s) (hS : h_S n SH) (hk : tk_ok K W P T) (ht : t ≤ T) (hf : 12 * T + 20 < f) (hd : d_vw K W FI FL t 0 B) (hm : (FI 121 78).toInt = md) : q_loc K W FI T md t B s (lp_lc K W f t) := by
  obtain ⟨hg, hP, hT, hT2, hn, hPT⟩ := hk
  have small : ∀ t1 c, lp_lc K W f t = some (t1, c) → t1 ≤ T → c.length < 2000000000 := by
    intro t1 c e h1
    have q := lp_lc_P hP e
    have q2 := tk_P_le hP hn h1 (Nat.le_refl _)
    omega
  have hl1 := hd.2.2.2.1
  rcases h with ⟨h1, h⟩ | ⟨h1, h⟩
  · rw [tk_sign hd.1 (by decide : ((123 : Int32)).toInt = 123)] at h1
    have e0 : lp_lc K W f t = if lp_is (K t) (W t) = true then lp_pl K W f 0 t else none := by unfold lp_lc; rw [if_neg h1]
    rcases h with ⟨h2, h⟩ | ⟨h2, h⟩
    · rw [tk_place hd] at h2
      rw [e0, if_neg (by rw [h2]; simp)]
      obtain ⟨v4, n4, sl4, SH4, FI4, FL4, FR4, hc, h⟩ := h
      exact (kX12_location_235 h).2.2.2.2.2.2 (f_fault hc (by decide))
    · rw [tk_place hd] at h2
      have hi : lp_is (K t) (W t) = true := by
        cases e : lp_is (K t) (W t) with
        | true => rfl
        | false => exact absurd e h2
      rw [if_pos hi] at e0
      obtain ⟨v4, n4, sl4, SH4, FI4, FL4, FR4, hc, h⟩ := h
      have kc := kX12_place hc
      have zc : z_k FI FI4 := z_kq kc (by decide) (by decide)
      have q := d_place hc hS hg hT hT2 ht hf hd (by decide) (by decide) hi
      rw [e0] at small ⊢
      generalize lp_pl K W f 0 t = r at q small
      match r, q with
      | none, q => exact (kX12_location_235 h).2.2.2.2.2.2 q
      | some (t1, c), ⟨q1, q2, q3⟩ =>
        refine ⟨q1, q2, ?_⟩
        rcases q3 with ⟨q3, q4⟩ | q4
        · exact Or.inl ⟨q3, (kX12_location_235 h).2.2.2.2.2.2 q4⟩
        · have k := d_235 (md := md) h hl1 (small t1 c rfl q2) q4 (by rw [zc.2]; exact hm)
          rw [zc.1] at k
          exact Or.inr k
  · rw [tk_sign hd.1 (by decide : ((123 : Int32)).toInt = 123)] at h1
    have h1' : K t = 5 ∧ W t = 123 := Classical.byContradiction (fun hn => h1 hn)
    have ht1 := lt_T hT ht (by omega)
    have e0 : lp_lc K W f t = lp_pt K W f 20 0 (t + 1) := by unfold lp_lc; rw [if_pos h1']
    obtain ⟨v4, n4, sl4, SH4, FI4, FL4, FR4, hc, g, h⟩ := h
    have kc := kX12_opens hc
    have zc : z_k FI FI4 := z_kq kc (by decide) (by decide)
    have hS4 : h_S n4 SH4 := by rw [show n4 = n from kc.1, show SH4 = SH from kc.2.2.1]; exact hS
    rcases d_opens hc hd (by omega) (by decide) (by decide) with ⟨g1, g2⟩ | ⟨g1, g2⟩
    · exact absurd g1 (by decide)
    · have q := d_pt hg hT hT2 hf g 0 1 n4 sl4 SH4 FI4 FL4 FR4 v s 20 0 (t + 1) B h hS4 (by decide) (by decide) (by decide) (by decide) ht1 g2
      rw [e0] at small ⊢
      generalize lp_pt K W f 20 0 (t + 1) = r at q small
      match r, q with
      | none, q => exact q
      | some (t1, c), ⟨q1, q2, n5, sl5, SH5, FI5, FL5, FR5, q3, q4, q5⟩ =>
        refine ⟨by omega, q2, Or.inr ?_⟩
        have k := d_235 (md := md) q3 hl1 (small t1 c rfl q2) q4 (by rw [q5.2, zc.2]; exact hm)
        rw [q5.1, zc.1] at k
        exact k
end LO2
