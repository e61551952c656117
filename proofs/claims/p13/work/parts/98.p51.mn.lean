/-! For means: what waits, how many values stand. -/
def rl_wm (w : Int32) (c b : Nat → Int32) : Prop := ∀ i : Nat, (i : Int) < w.toInt → (b i).toInt = 9 → (c i).toInt = 31 ∨ (c i).toInt = 32 ∨ (c i).toInt = 155 ∨ (257 ≤ (c i).toInt ∧ (c i).toInt ≤ 264)
theorem rl_wm_mono {w w2 : Int32} {c b : Nat → Int32} (h : rl_wm w c b) (h1 : w2.toInt ≤ w.toInt) : rl_wm w2 c b := fun i hi => h i (by omega)
theorem rl_wm_0 {w : Int32} {c b : Nat → Int32} (h : w.toInt = 0) : rl_wm w c b := fun i hi => by omega
theorem rl_wm_push {w w2 x y : Int32} {c b : Nat → Int32} (h : rl_wm w c b) (h0 : 0 ≤ w.toInt) (h1 : w2.toInt = w.toInt + 1) (hx : y.toInt = 9 → x.toInt = 31 ∨ x.toInt = 32 ∨ x.toInt = 155 ∨ (257 ≤ x.toInt ∧ x.toInt ≤ 264)) : rl_wm w2 (va_up c w.toNatClampNeg x) (va_up b w.toNatClampNeg y) := fun i hi => by
  have e2 : w.toNatClampNeg = w.toInt.toNat := i_cl rfl
  by_cases e : i = w.toNatClampNeg
  · subst e; simp only [va_up, if_pos]; exact hx
  · simp only [va_up, if_neg e]; exact h i (by omega)
theorem au_vc_red {b : Int} (hb : 1 ≤ b) : ∀ {l : List Int}, au_ok l → (∀ y r, l = y :: r → y ≠ 9) → (au_vc l : Int) - (au_vc (au_red b l) : Int) = (l.length : Int) - ((au_red b l).length : Int)
  | [], _, _ => by simp [au_red]
  | x :: l, h, hh => by
    obtain ⟨h1, h2, h3⟩ := h
    by_cases hx : b ≤ x
    · have hx9 := hh x l rfl
      have hx7 : 1 ≤ x ∧ x ≤ 7 := by unfold au_el at h1; omega
      have := au_vc_red hb h2 (fun y r e => ((h3 y r e).1 hx7).2)
      rw [au_red_pop hx]
      simp only [au_vc, List.length_cons]
      rw [if_pos (Or.inl hx7)]
      omega
    · rw [au_red_stop (by omega)]
      omega
theorem au_pop1 {b : Int} {x : Int} {l : List Int} (hb : 1 ≤ b) (hx : b ≤ x) (h : au_ok (x :: l)) (hh : ∀ y r, x :: l = y :: r → y ≠ 9) : (1 ≤ x ∧ x ≤ 7) ∧ au_ok l ∧ (∀ y r, l = y :: r → y ≠ 9) ∧ (au_vc (x :: l) : Int) = au_vc l + 1 := by
  obtain ⟨h1, h2, h3⟩ := h
  have hx9 := hh x l rfl
  have hx7 : 1 ≤ x ∧ x ≤ 7 := by unfold au_el at h1; omega
  refine ⟨hx7, h2, fun y r e => ((h3 y r e).1 hx7).2, ?_⟩
  simp only [au_vc]
  rw [if_pos (Or.inl hx7)]
  omega
theorem ma_0 {l : List Int} (h : au_ok l) (hh : ∀ y r, l = y :: r → y ≠ 9) : au_all (au_red 1 l) = au_all l ∧ au_ok (au_red 1 l) ∧ ∀ y r, au_red 1 l = y :: r → y < 1 := ⟨(ra_0 h hh).1, (ra_0 h hh).2.2.1, (ra_0 h hh).2.2.2⟩
theorem ma_s {l l1 : List Int} (e : l = -3 :: l1) (h : au_ok l) : au_all (au_red 1 l1) = au_all l ∧ au_ok (au_red 1 l1) ∧ (∀ y r, au_red 1 l1 = y :: r → y < 1) ∧ au_ok l1 ∧ (∀ y r, l1 = y :: r → y ≠ 9) ∧ (au_vc l : Int) = au_vc l1 + 1 := by
  have g := ra_s e h
  subst e
  refine ⟨g.1, g.2.2.1, g.2.2.2, h.2.1, fun y r e => by have := (h.2.2 y r e).2 (Or.inr rfl); omega, ?_⟩
  rw [show au_vc (-3 :: l1) = 1 + au_vc l1 from by simp [au_vc]]; omega
theorem rl_wm_b {w x : Int32} {c b : Nat → Int32} {k : Nat} (h : rl_wm w c b) (hx : x.toInt ≠ 9) : rl_wm w c (va_up b k x) := fun i hi => by
  by_cases e : i = k
  · subst e; simp only [va_up, if_pos]; exact fun h => absurd h hx
  · simp only [va_up, if_neg e]; exact h i hi
