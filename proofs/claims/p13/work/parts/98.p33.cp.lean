/-! For compile: shifts by seven, the stack of operators and what it keeps. -/
theorem l_shr7 {x : Int64} {A : Int} (hx : x.toInt = A) : (x >>> ((7 : Int32).toInt64 &&& 63)).toInt = A / 128 := by
  have e : ((7 : Int32).toInt64 &&& 63) = (7 : Int64) := by decide
  rw [e]
  have e2 : (x >>> (7 : Int64)).toBitVec = x.toBitVec.sshiftRight 7 := by
    rw [Int64.toBitVec_shiftRight]; rfl
  show (x >>> (7 : Int64)).toBitVec.toInt = _
  rw [e2, BitVec.toInt_sshiftRight, Int.shiftRight_eq_div_pow, ← hx]; rfl
def p7 (k : Int) : Int := (2 : Int) ^ (63 - 7 * k.toNat)
theorem p7_0 {x : Int} (h : x ≤ 9223372036854775807) : x < p7 0 := by
  have : p7 0 = 9223372036854775808 := by decide
  omega
theorem p7_m0 {x : Int} (h : -9223372036854775808 ≤ x) : -p7 0 ≤ x := by
  have : p7 0 = 9223372036854775808 := by decide
  omega
theorem p7_e {k : Int} (h0 : 0 ≤ k) (h1 : k < 9) : p7 k = 128 * p7 (k + 1) := by
  have : ∀ j : Nat, j < 9 → p7 (j : Int) = 128 * p7 ((j : Int) + 1) := by decide
  have z := this k.toNat (by omega)
  rwa [Int.toNat_of_nonneg h0] at z
theorem p7_s {x k : Int} (h : x < p7 k) (h0 : 0 ≤ k) (h1 : k < 9) : x / 128 < p7 (k + 1) := by
  rw [p7_e h0 h1] at h; omega
theorem p7_ms {x k : Int} (h : -p7 k ≤ x) (h0 : 0 ≤ k) (h1 : k < 9) : -p7 (k + 1) ≤ x / 128 := by
  rw [p7_e h0 h1] at h; omega
theorem p7_9 {x k : Int} (h : x < p7 k) (h9 : 9 ≤ k) : x ≤ 0 := by
  unfold p7 at h
  rw [show 63 - 7 * k.toNat = 0 by omega] at h
  omega
theorem p7_m9 {x k : Int} (h : -p7 k ≤ x) (h9 : 9 ≤ k) : -1 ≤ x := by
  unfold p7 at h
  rw [show 63 - 7 * k.toNat = 0 by omega] at h
  omega
/-- where what waits was placed: within what was emitted -/
def rl_pm (w m : Int32) (b p q : Nat → Int32) : Prop := ∀ i : Nat, (i : Int) < w.toInt → ((b i).toInt = -2 → 0 ≤ (p i).toInt ∧ (p i).toInt + 2 ≤ m.toInt) ∧ ((b i).toInt = -3 → 0 ≤ (p i).toInt ∧ (p i).toInt + 2 ≤ (q i).toInt ∧ (q i).toInt ≤ m.toInt)
theorem rl_pm_mono {w m w2 m2 : Int32} {b p q : Nat → Int32} (h : rl_pm w m b p q) (h1 : w2.toInt ≤ w.toInt) (h2 : m.toInt ≤ m2.toInt) : rl_pm w2 m2 b p q := fun i hi => by
  obtain ⟨g1, g2⟩ := h i (by omega)
  exact ⟨fun e => by have := g1 e; omega, fun e => by have := g2 e; omega⟩
theorem rl_pm_0 {w m : Int32} {b p q : Nat → Int32} (h : w.toInt = 0) : rl_pm w m b p q := fun i hi => by omega
/-- something else than ? or its : waits above -/
theorem rl_pm_push {w m w2 : Int32} {b p q : Nat → Int32} {x : Int32} (h : rl_pm w m b p q) (h0 : 0 ≤ w.toInt) (h1 : w2.toInt = w.toInt + 1) (h2 : x.toInt ≠ -2 ∧ x.toInt ≠ -3) : rl_pm w2 m (va_up b w.toNatClampNeg x) p q := fun i hi => by
  by_cases e : i = w.toNatClampNeg
  · subst e; simp only [va_up, if_pos]; exact ⟨fun e => absurd e h2.1, fun e => absurd e h2.2⟩
  · have e2 : w.toNatClampNeg = w.toInt.toNat := i_cl rfl
    simp only [va_up, if_neg e]; exact h i (by omega)
/-- a ? waits above -/
theorem rl_pm_ask {w m w2 m2 i0 : Int32} {b p q : Nat → Int32} {x : Int32} (h : rl_pm w m (b) p q) (hb : ∀ i : Nat, (i : Int) < w.toInt → True) (h0 : 0 ≤ w.toInt) (h1 : w2.toInt = w.toInt + 1) (hi : i0.toInt = w.toInt) (h2 : m.toInt ≤ m2.toInt) (h3 : 0 ≤ x.toInt ∧ x.toInt + 2 ≤ m2.toInt) : rl_pm w2 m2 (va_up b w.toNatClampNeg (-2)) (va_up p i0.toNatClampNeg x) q := fun i hi2 => by
  have e2 : w.toNatClampNeg = w.toInt.toNat := i_cl rfl
  have e3 : i0.toNatClampNeg = w.toInt.toNat := i_cl hi
  by_cases e : i = w.toInt.toNat
  · rw [e2, e3]; subst e; simp only [va_up, if_pos]; exact ⟨fun _ => h3, fun e => absurd e (by decide)⟩
  · rw [e2, e3]; simp only [va_up, if_neg e]
    obtain ⟨g1, g2⟩ := h i (by omega)
    exact ⟨fun e => by have := g1 e; omega, fun e => by have := g2 e; omega⟩
/-- the ? above becomes its : -/
theorem rl_pm_else {w m i0 i1 : Int32} {b p q : Nat → Int32} (h : rl_pm w m b p q) (h0 : 1 ≤ w.toInt) (hi : i0.toInt = w.toInt - 1) (hj : i1.toInt = w.toInt - 1) (ht : (b (w.toInt - 1).toNat).toInt = -2) : rl_pm w m (va_up b i1.toNatClampNeg (-3)) p (va_up q i0.toNatClampNeg m) := fun i hi2 => by
  have e3 : i0.toNatClampNeg = (w.toInt - 1).toNat := i_cl hi
  have e2 : i1.toNatClampNeg = (w.toInt - 1).toNat := i_cl hj
  have g := h i hi2
  by_cases e : i = (w.toInt - 1).toNat
  · rw [e2, e3]; subst e; simp only [va_up, if_pos]
    have := g.1 ht
    exact ⟨fun e => absurd e (by decide), fun _ => ⟨this.1, this.2, Int.le_refl _⟩⟩
  · rw [e2, e3]; simp only [va_up, if_neg e]; exact g
theorem au_red_pop {b x : Int} {l : List Int} (h : b ≤ x) : au_red b (x :: l) = au_red b l := by
  unfold au_red; rw [List.dropWhile_cons, if_pos (decide_eq_true h)]
theorem au_red_stop {b x : Int} {l : List Int} (h : x < b) : au_red b (x :: l) = x :: l := by
  unfold au_red; rw [List.dropWhile_cons, if_neg (by simp; omega)]
theorem au_fin_pop {l : List Int} : au_fin (9 :: l) = au_fin l := by
  unfold au_fin; rw [List.dropWhile_cons, if_pos (by decide)]
theorem au_fin_stop {x : Int} {l : List Int} (h : x ≠ 9) : au_fin (x :: l) = x :: l := by
  unfold au_fin; rw [List.dropWhile_cons, if_neg (by simp [h])]
theorem au_all_pop {x : Int} {l : List Int} (h : 1 ≤ x ∨ x = -3) : au_all (x :: l) = au_all l := by
  unfold au_all; rw [List.dropWhile_cons, if_pos (decide_eq_true h)]
theorem au_all_stop {x : Int} {l : List Int} (h : ¬ (1 ≤ x ∨ x = -3)) : au_all (x :: l) = x :: l := by
  unfold au_all; rw [List.dropWhile_cons, if_neg (by simpa using h)]
theorem au_all_red {l : List Int} : au_all (au_red 1 l) = au_all l := by
  induction l with
  | nil => rfl
  | cons x l ih =>
    by_cases h : (1 : Int) ≤ x
    · rw [au_red_pop h, ih, au_all_pop (Or.inl h)]
    · rw [au_red_stop (by omega)]
theorem au_op_red {b : Int} {l : List Int} (hb : 1 ≤ b) (h : au_ok l) (hh : ∀ y r, l = y :: r → y ≠ 9) : au_op (au_red b l) = au_op l := by
  induction l with
  | nil => rfl
  | cons x l ih =>
    obtain ⟨h1, h2, h3⟩ := h
    by_cases hx : b ≤ x
    · have hx9 := hh x l rfl
      have hx7 : 1 ≤ x ∧ x ≤ 7 := by unfold au_el at h1; omega
      rw [au_red_pop hx, ih h2 (fun y r e => ((h3 y r e).1 hx7).2)]
      simp [au_op, hx7]
    · rw [au_red_stop (by omega)]
def kf (f : Nat → Int32) : Nat → Int := fun i => (f i).toInt
def wf (f : Nat → Int64) : Nat → Int := fun i => (f i).toInt
theorem sk_push2 {f : Nat → Int32} {x w w2 : Int32} (h0 : 0 ≤ w.toInt) (h : w2.toInt = w.toInt + 1) : sk (va_up f w.toNatClampNeg x) w2.toInt.toNat = x.toInt :: sk f w.toInt.toNat := by
  rw [show w2.toInt.toNat = w.toInt.toNat + 1 by omega, i_cl (rfl : w.toInt = w.toInt)]; exact sk_push
theorem sk_pop {f : Nat → Int32} {w i : Int32} (h : 1 ≤ w.toInt) (hi : i.toInt = w.toInt - 1) : sk f w.toInt.toNat = (f i.toNatClampNeg).toInt :: sk f (w.toInt - 1).toNat := by
  rw [sk_top (show 0 < w.toInt.toNat by omega), i_cl hi, show w.toInt.toNat - 1 = (w.toInt - 1).toNat by omega]
theorem au_bn_7 {k w : Int} : au_bn k w = 7 ↔ ((k = 5 ∧ w = 42) ∨ (k = 2 ∧ (w = 8 ∨ w = 9))) := by
  unfold au_bn
  constructor
  · intro h
    split at h
    · assumption
    · repeat' split at h
      all_goals omega
  · intro h; rw [if_pos h]
theorem au_bn_6 {k w : Int} : au_bn k w = 6 ↔ (k = 5 ∧ (w = 43 ∨ w = 45)) := by
  unfold au_bn
  constructor
  · intro h
    repeat' split at h
    all_goals omega
  · intro h; rw [if_neg (by omega), if_pos h]
theorem au_bn_5 {k w : Int} : au_bn k w = 5 ↔ (k = 5 ∧ (w = 261 ∨ w = 262 ∨ w = 263)) := by
  unfold au_bn
  constructor
  · intro h
    repeat' split at h
    all_goals omega
  · intro h; rw [if_neg (by omega), if_neg (by omega), if_pos h]
theorem au_bn_4 {k w : Int} : au_bn k w = 4 ↔ (k = 5 ∧ (w = 257 ∨ w = 258 ∨ w = 60 ∨ w = 259 ∨ w = 62 ∨ w = 260)) := by
  unfold au_bn
  constructor
  · intro h
    repeat' split at h
    all_goals omega
  · intro h; rw [if_neg (by omega), if_neg (by omega), if_neg (by omega), if_pos h]
theorem au_bn_3 {k w : Int} : au_bn k w = 3 ↔ (k = 5 ∧ w = 38) := by
  unfold au_bn
  constructor
  · intro h
    repeat' split at h
    all_goals omega
  · intro h; rw [if_neg (by omega), if_neg (by omega), if_neg (by omega), if_neg (by omega), if_pos h]
theorem au_bn_2 {k w : Int} : au_bn k w = 2 ↔ (k = 5 ∧ w = 94) := by
  unfold au_bn
  constructor
  · intro h
    repeat' split at h
    all_goals omega
  · intro h; rw [if_neg (by omega), if_neg (by omega), if_neg (by omega), if_neg (by omega), if_neg (by omega), if_pos h]
theorem au_bn_1 {k w : Int} : au_bn k w = 1 ↔ (k = 5 ∧ w = 124) := by
  unfold au_bn
  constructor
  · intro h
    repeat' split at h
    all_goals omega
  · intro h; rw [if_neg (by omega), if_neg (by omega), if_neg (by omega), if_neg (by omega), if_neg (by omega), if_neg (by omega), if_pos h]
theorem au_bn_0 {k w : Int} (h7 : au_bn k w ≠ 7) (h6 : au_bn k w ≠ 6) (h5 : au_bn k w ≠ 5) (h4 : au_bn k w ≠ 4) (h3 : au_bn k w ≠ 3) (h2 : au_bn k w ≠ 2) (h1 : au_bn k w ≠ 1) : au_bn k w = 0 := by
  have := au_bn_rg k w; omega
theorem au_op_fin : ∀ (l : List Int), au_op l + (au_fin l).length = au_op (au_fin l) + l.length
  | [] => rfl
  | x :: l => by
    by_cases h : x = 9
    · subst h
      rw [au_fin_pop]
      have := au_op_fin l
      simp only [au_op, List.length_cons]
      rw [if_neg (by omega)]
      omega
    · rw [au_fin_stop h]
theorem ra_0 {l : List Int} (h : au_ok l) (hh : ∀ y r, l = y :: r → y ≠ 9) : au_all (au_red 1 l) = au_all l ∧ (au_op (au_red 1 l) : Int) = au_op l ∧ au_ok (au_red 1 l) ∧ ∀ y r, au_red 1 l = y :: r → y < 1 :=
  ⟨au_all_red, by rw [au_op_red (by decide) h hh], au_ok_dw h, fun y r e => by
    have h1 := au_dw_hd (show l.dropWhile _ = y :: r from e)
    have h2 : ¬ (1 : Int) ≤ y := of_decide_eq_false h1
    omega⟩
theorem ra_s {l l1 : List Int} (e : l = -3 :: l1) (h : au_ok l) : au_all (au_red 1 l1) = au_all l ∧ (au_op (au_red 1 l1) : Int) = au_op l - 1 ∧ au_ok (au_red 1 l1) ∧ ∀ y r, au_red 1 l1 = y :: r → y < 1 := by
  subst e
  have g := ra_0 h.2.1 (fun y r e => by have := (h.2.2 y r e).2 (Or.inr rfl); omega)
  refine ⟨?_, ?_, g.2.2.1, g.2.2.2⟩
  · rw [g.1, au_all_pop (Or.inr rfl)]
  · rw [g.2.1]; simp only [au_op]; rw [if_neg (by omega)]; omega
theorem ra_e {l : List Int} (h : ∀ y r, l = y :: r → y < 1) (h3 : ∀ y r, l = y :: r → y ≠ -3) : au_all l = l := by
  cases l with
  | nil => rfl
  | cons x r =>
    have := h x r rfl
    have := h3 x r rfl
    exact au_all_stop (by omega)
