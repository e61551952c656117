section
/-! THE LANGUAGE's expressions as a walk over tokens: place, whether an operand is wanted, the operators that wait (the last first). Both readings of the reference (compile, means) follow it. -/
def au_un (k w : Int) : Prop := k = 4 ∨ (k = 5 ∧ (w = 45 ∨ w = 126)) ∨ (k = 2 ∧ w = 7)
def au_bn (k w : Int) : Int :=
  if (k = 5 ∧ w = 42) ∨ (k = 2 ∧ (w = 8 ∨ w = 9)) then 7 else
  if k = 5 ∧ (w = 43 ∨ w = 45) then 6 else
  if k = 5 ∧ (w = 261 ∨ w = 262 ∨ w = 263) then 5 else
  if k = 5 ∧ (w = 257 ∨ w = 258 ∨ w = 60 ∨ w = 259 ∨ w = 62 ∨ w = 260) then 4 else
  if k = 5 ∧ w = 38 then 3 else if k = 5 ∧ w = 94 then 2 else if k = 5 ∧ w = 124 then 1 else 0
def au_fin (l : List Int) : List Int := l.dropWhile (fun x => decide (x = 9))
def au_red (b : Int) (l : List Int) : List Int := l.dropWhile (fun x => decide (b ≤ x))
def au_all (l : List Int) : List Int := l.dropWhile (fun x => decide (1 ≤ x ∨ x = -3))
def au_st (K W : Nat → Int) (p : Nat) (a : Bool) (l : List Int) (q : Nat) (b : Bool) (m : List Int) : Prop :=
  (a = true ∧ au_un (K p) (W p) ∧ q = p + 1 ∧ b = true ∧ m = 9 :: l) ∨
  (a = true ∧ K p = 5 ∧ W p = 40 ∧ q = p + 1 ∧ b = true ∧ m = -1 :: l) ∨
  (a = true ∧ (K p = 3 ∨ (K p = 2 ∧ (W p = 4 ∨ W p = 5 ∨ W p = 6))) ∧ q = p + 1 ∧ b = false ∧ m = au_fin l) ∨
  (a = true ∧ K p = 5 ∧ W p = 37 ∧ K (p + 1) = 3 ∧ W (p + 1) ≤ 31 ∧ q = p + 2 ∧ b = false ∧ m = au_fin l) ∨
  (a = false ∧ au_bn (K p) (W p) ≠ 0 ∧ q = p + 1 ∧ b = true ∧ m = au_bn (K p) (W p) :: au_red (au_bn (K p) (W p)) l) ∨
  (a = false ∧ K p = 5 ∧ W p = 63 ∧ q = p + 1 ∧ b = true ∧ m = -2 :: au_red 1 l) ∨
  (a = false ∧ K p = 5 ∧ W p = 58 ∧ (∃ r, au_all l = -2 :: r ∧ m = -3 :: r) ∧ q = p + 1 ∧ b = true) ∨
  (a = false ∧ K p = 5 ∧ W p = 41 ∧ (∃ r, au_all l = -1 :: r ∧ m = au_fin r) ∧ q = p + 1 ∧ b = false)
def au_rch (K W : Nat → Int) : Nat → Nat → Bool → List Int → Nat → Bool → List Int → Prop
  | 0, p, a, l, q, b, m => p = q ∧ a = b ∧ l = m
  | n + 1, p, a, l, q, b, m => ∃ p1 a1 l1, au_st K W p a l p1 a1 l1 ∧ l1.length < 250 ∧ au_rch K W n p1 a1 l1 q b m
def au_acc (K W : Nat → Int) (p q : Nat) : Prop := ∃ n l, au_rch K W n p true [] q false l ∧ au_bn (K q) (W q) = 0 ∧ ¬ (K q = 5 ∧ W q = 63) ∧ au_all l = []
theorem au_snoc {K W : Nat → Int} : ∀ (n p : Nat) (a : Bool) (l : List Int) (q : Nat) (b : Bool) (m : List Int) (q2 : Nat) (b2 : Bool) (m2 : List Int), au_rch K W n p a l q b m → au_st K W q b m q2 b2 m2 → m2.length < 250 → au_rch K W (n + 1) p a l q2 b2 m2
  | 0, p, a, l, q, b, m, q2, b2, m2, h, hs, hl => by
    obtain ⟨rfl, rfl, rfl⟩ := h
    exact ⟨q2, b2, m2, hs, hl, rfl, rfl, rfl⟩
  | n + 1, p, a, l, q, b, m, q2, b2, m2, h, hs, hl => by
    obtain ⟨p1, a1, l1, g1, g2, g3⟩ := h
    exact ⟨p1, a1, l1, g1, g2, au_snoc n _ _ _ _ _ _ _ _ _ g3 hs hl⟩
theorem au_st_lt {K W : Nat → Int} {p q : Nat} {a b : Bool} {l m : List Int} (h : au_st K W p a l q b m) : p < q := by
  unfold au_st at h
  rcases h with h | h | h | h | h | h | h | h
  · omega
  · omega
  · omega
  · omega
  · omega
  · omega
  · obtain ⟨-, -, -, -, h, -⟩ := h; omega
  · obtain ⟨-, -, -, -, h, -⟩ := h; omega
theorem au_rch_le {K W : Nat → Int} : ∀ (n p : Nat) (a : Bool) (l : List Int) (q : Nat) (b : Bool) (m : List Int), au_rch K W n p a l q b m → p ≤ q
  | 0, p, a, l, q, b, m, h => by obtain ⟨rfl, -, -⟩ := h; exact Nat.le_refl _
  | n + 1, p, a, l, q, b, m, h => by
    obtain ⟨p1, a1, l1, g1, g2, g3⟩ := h
    have := au_rch_le n _ _ _ _ _ _ g3
    have := au_st_lt g1
    omega
/-! what can lie on the stack -/
def au_el (x : Int) : Prop := x = 9 ∨ x = -1 ∨ x = -2 ∨ x = -3 ∨ (1 ≤ x ∧ x ≤ 7)
def au_ok : List Int → Prop
  | [] => True
  | x :: l => au_el x ∧ au_ok l ∧ (∀ y r, l = y :: r → ((1 ≤ x ∧ x ≤ 7) → (y < x ∧ y ≠ 9)) ∧ ((x = -2 ∨ x = -3) → y < 1))
def au_op : List Int → Nat
  | [] => 0
  | x :: l => (if 1 ≤ x ∧ x ≤ 7 then 0 else 1) + au_op l
def au_vc : List Int → Nat
  | [] => 0
  | x :: l => (if (1 ≤ x ∧ x ≤ 7) ∨ x = -3 then 1 else 0) + au_vc l
theorem au_ok_dw {p : Int → Bool} : ∀ {l : List Int}, au_ok l → au_ok (l.dropWhile p)
  | [], _ => trivial
  | x :: l, h => by
    rw [List.dropWhile_cons]
    split
    · exact au_ok_dw h.2.1
    · exact h
theorem au_dw_hd {p : Int → Bool} : ∀ {l : List Int} {y : Int} {r : List Int}, l.dropWhile p = y :: r → p y = false
  | [], y, r, h => by cases h
  | x :: l, y, r, h => by
    rw [List.dropWhile_cons] at h
    split at h
    · exact au_dw_hd h
    · rename_i hx
      cases h
      exact Bool.eq_false_iff.mpr hx
theorem au_ok_el {l : List Int} {y : Int} {r : List Int} (h : au_ok l) (e : l = y :: r) : au_el y := by subst e; exact h.1
theorem au_hgt : ∀ {l : List Int}, au_ok l → (∀ x r, l = x :: r → (1 ≤ x ∧ x ≤ 7) → (l.length : Int) ≤ 8 * au_op l + x) ∧ ((∀ x r, l = x :: r → ¬ (1 ≤ x ∧ x ≤ 7)) → l.length ≤ 8 * au_op l)
  | [], _ => ⟨fun _ _ h => (by cases h), fun _ => (by simp)⟩
  | x :: l, h => by
    obtain ⟨h1, h2, h3⟩ := h
    have ih := au_hgt h2
    refine ⟨fun x' r e hb => ?_, fun hb => ?_⟩
    · cases e
      simp only [List.length_cons, au_op, if_pos hb]
      cases l with
      | nil => simp [au_op]; omega
      | cons y r =>
        obtain ⟨g1, g2⟩ := (h3 y r rfl).1 hb
        by_cases hy : 1 ≤ y ∧ y ≤ 7
        · have := ih.1 y r rfl hy
          simp only [List.length_cons] at this ⊢
          push_cast at this ⊢
          omega
        · have := ih.2 (fun x r e => by cases e; exact hy)
          simp only [List.length_cons] at this ⊢
          push_cast
          omega
    · have hx : ¬ (1 ≤ x ∧ x ≤ 7) := hb x l rfl
      simp only [List.length_cons, au_op, if_neg hx]
      cases l with
      | nil => simp [au_op]
      | cons y r =>
        by_cases hy : 1 ≤ y ∧ y ≤ 7
        · have := ih.1 y r rfl hy
          simp only [List.length_cons] at this ⊢
          omega
        · have := ih.2 (fun x r e => by cases e; exact hy)
          simp only [List.length_cons] at this ⊢
          omega
theorem au_len {l : List Int} (h : au_ok l) : l.length ≤ 8 * au_op l + 7 := by
  cases l with
  | nil => simp
  | cons x r =>
    by_cases hx : 1 ≤ x ∧ x ≤ 7
    · have := (au_hgt h).1 x r rfl hx; omega
    · have := (au_hgt h).2 (fun y r e => by cases e; exact hx); omega
theorem au_bn_rg (k w : Int) : 0 ≤ au_bn k w ∧ au_bn k w ≤ 7 := by
  unfold au_bn
  repeat' split
  all_goals omega
theorem au_ok_red {b : Int} {l : List Int} (h : au_ok l) (hb : 1 ≤ b ∧ b ≤ 7) : au_ok (b :: au_red b l) := by
  refine ⟨Or.inr (Or.inr (Or.inr (Or.inr hb))), au_ok_dw h, fun y r e => ⟨fun _ => ?_, fun h => by omega⟩⟩
  have h1 := au_dw_hd (show l.dropWhile _ = y :: r from e)
  have h2 : ¬ b ≤ y := of_decide_eq_false h1
  omega
theorem au_ok_q {l : List Int} (h : au_ok l) : au_ok (-2 :: au_red 1 l) := by
  refine ⟨Or.inr (Or.inr (Or.inl rfl)), au_ok_dw h, fun y r e => ⟨fun h => by omega, fun _ => ?_⟩⟩
  have h1 := au_dw_hd (show l.dropWhile _ = y :: r from e)
  have h2 : ¬ (1 : Int) ≤ y := of_decide_eq_false h1
  omega
theorem au_ok_c {l : List Int} {r : List Int} (h : au_ok l) (e : au_all l = -2 :: r) : au_ok (-3 :: r) := by
  have h1 : au_ok (au_all l) := au_ok_dw h
  rw [e] at h1
  exact ⟨Or.inr (Or.inr (Or.inr (Or.inl rfl))), h1.2.1, fun y q e2 => ⟨fun h => by omega, fun _ => (h1.2.2 y q e2).2 (Or.inl rfl)⟩⟩
theorem au_fin_hd {l : List Int} {y : Int} {r : List Int} (e : au_fin l = y :: r) : y ≠ 9 := by
  have h1 := au_dw_hd (show l.dropWhile _ = y :: r from e)
  exact of_decide_eq_false h1
theorem au_st_ok {K W : Nat → Int} {p q : Nat} {a b : Bool} {l m : List Int} (h : au_st K W p a l q b m) (ho : au_ok l) (hh : a = false → ∀ y r, l = y :: r → y ≠ 9) : au_ok m ∧ (b = false → ∀ y r, m = y :: r → y ≠ 9) := by
  rcases h with ⟨-, -, -, rfl, rfl⟩ | ⟨-, -, -, -, rfl, rfl⟩ | ⟨-, -, -, rfl, rfl⟩ | ⟨-, -, -, -, -, -, rfl, rfl⟩ | ⟨ha, hb, -, rfl, rfl⟩ | ⟨-, -, -, -, rfl, rfl⟩ | ⟨-, -, -, ⟨r, e, rfl⟩, -, rfl⟩ | ⟨-, -, -, ⟨r, e, rfl⟩, -, rfl⟩
  · exact ⟨⟨Or.inl rfl, ho, fun y r e => ⟨fun h => by omega, fun h => by omega⟩⟩, fun h => by cases h⟩
  · exact ⟨⟨Or.inr (Or.inl rfl), ho, fun y r e => ⟨fun h => by omega, fun h => by omega⟩⟩, fun h => by cases h⟩
  · exact ⟨au_ok_dw ho, fun _ y r e => au_fin_hd e⟩
  · exact ⟨au_ok_dw ho, fun _ y r e => au_fin_hd e⟩
  · have := au_bn_rg (K p) (W p)
    exact ⟨au_ok_red ho (by omega), fun h => by cases h⟩
  · exact ⟨au_ok_q ho, fun h => by cases h⟩
  · exact ⟨au_ok_c ho e, fun h => by cases h⟩
  · have h1 : au_ok (au_all l) := au_ok_dw ho
    rw [e] at h1
    exact ⟨au_ok_dw h1.2.1, fun _ y r e => au_fin_hd e⟩
theorem au_rch_ok {K W : Nat → Int} : ∀ (n p : Nat) (a : Bool) (l : List Int) (q : Nat) (b : Bool) (m : List Int), au_rch K W n p a l q b m → au_ok l → (a = false → ∀ y r, l = y :: r → y ≠ 9) → au_ok m ∧ (b = false → ∀ y r, m = y :: r → y ≠ 9)
  | 0, p, a, l, q, b, m, h, h1, h2 => by obtain ⟨rfl, rfl, rfl⟩ := h; exact ⟨h1, h2⟩
  | n + 1, p, a, l, q, b, m, h, h1, h2 => by
    obtain ⟨p1, a1, l1, g1, g2, g3⟩ := h
    have := au_st_ok g1 h1 h2
    exact au_rch_ok n _ _ _ _ _ _ g3 this.1 this.2
/-! the stack in the machine -/
def sk (f : Nat → Int32) : Nat → List Int
  | 0 => []
  | w + 1 => (f w).toInt :: sk f w
theorem sk_len (f : Nat → Int32) : ∀ w, (sk f w).length = w
  | 0 => rfl
  | w + 1 => by simp [sk, sk_len f w]
theorem sk_up {f : Nat → Int32} {x : Int32} : ∀ {w k : Nat}, w ≤ k → sk (va_up f k x) w = sk f w
  | 0, k, _ => rfl
  | w + 1, k, h => by
    show (va_up f k x w).toInt :: sk (va_up f k x) w = _
    rw [sk_up (Nat.le_of_succ_le h)]
    have e : w ≠ k := by omega
    simp [va_up, e, sk]
theorem sk_push {f : Nat → Int32} {w : Nat} {x : Int32} : sk (va_up f w x) (w + 1) = x.toInt :: sk f w := by
  show (va_up f w x w).toInt :: sk (va_up f w x) w = _
  rw [sk_up (Nat.le_refl w)]
  simp [va_up]
theorem sk_top {f : Nat → Int32} {w : Nat} (h : 0 < w) : sk f w = (f (w - 1)).toInt :: sk f (w - 1) := by
  cases w with
  | zero => omega
  | succ w => rfl
end
section
/-! For compile: shifts by seven, the stack of operators and what it keeps. -/
theorem l_shr7 {x : Int64} {A : Int} (hx : x.toInt = A) : (x >>> ((7 : Int32).toInt64 &&& 63)).toInt = A / 128 := by
  have e : ((7 : Int32).toInt64 &&& 63) = (7 : Int64) := by decide
  rw [e]
  have e2 : (x >>> (7 : Int64)).toBitVec = x.toBitVec.sshiftRight 7 := by
    rw [Int64.toBitVec_shiftRight]; rfl
  show (x >>> (7 : Int64)).toBitVec.toInt = _
  rw [e2, BitVec.toInt_sshiftRight, Int.shiftRight_eq_div_pow, ← hx]; rfl
def p7 (k : Int) : Int := (2 : Int) ^ (63 - 7 * k.toNat)
theorem p7_0 {x : Int} (h : x ≤ 9223372036854775807) : x < p7 0 := by
  have : p7 0 = 9223372036854775808 := by decide
  omega
theorem p7_m0 {x : Int} (h : -9223372036854775808 ≤ x) : -p7 0 ≤ x := by
  have : p7 0 = 9223372036854775808 := by decide
  omega
theorem p7_e {k : Int} (h0 : 0 ≤ k) (h1 : k < 9) : p7 k = 128 * p7 (k + 1) := by
  have : ∀ j : Nat, j < 9 → p7 (j : Int) = 128 * p7 ((j : Int) + 1) := by decide
  have z := this k.toNat (by omega)
  rwa [Int.toNat_of_nonneg h0] at z
theorem p7_s {x k : Int} (h : x < p7 k) (h0 : 0 ≤ k) (h1 : k < 9) : x / 128 < p7 (k + 1) := by
  rw [p7_e h0 h1] at h; omega
theorem p7_ms {x k : Int} (h : -p7 k ≤ x) (h0 : 0 ≤ k) (h1 : k < 9) : -p7 (k + 1) ≤ x / 128 := by
  rw [p7_e h0 h1] at h; omega
theorem p7_9 {x k : Int} (h : x < p7 k) (h9 : 9 ≤ k) : x ≤ 0 := by
  unfold p7 at h
  rw [show 63 - 7 * k.toNat = 0 by omega] at h
  omega
theorem p7_m9 {x k : Int} (h : -p7 k ≤ x) (h9 : 9 ≤ k) : -1 ≤ x := by
  unfold p7 at h
  rw [show 63 - 7 * k.toNat = 0 by omega] at h
  omega
/-- where what waits was placed: within what was emitted -/
def rl_pm (w m : Int32) (b p q : Nat → Int32) : Prop := ∀ i : Nat, (i : Int) < w.toInt → ((b i).toInt = -2 → 0 ≤ (p i).toInt ∧ (p i).toInt + 2 ≤ m.toInt) ∧ ((b i).toInt = -3 → 0 ≤ (p i).toInt ∧ (p i).toInt + 2 ≤ (q i).toInt ∧ (q i).toInt ≤ m.toInt)
theorem rl_pm_mono {w m w2 m2 : Int32} {b p q : Nat → Int32} (h : rl_pm w m b p q) (h1 : w2.toInt ≤ w.toInt) (h2 : m.toInt ≤ m2.toInt) : rl_pm w2 m2 b p q := fun i hi => by
  obtain ⟨g1, g2⟩ := h i (by omega)
  exact ⟨fun e => by have := g1 e; omega, fun e => by have := g2 e; omega⟩
theorem rl_pm_0 {w m : Int32} {b p q : Nat → Int32} (h : w.toInt = 0) : rl_pm w m b p q := fun i hi => by omega
/-- something else than ? or its : waits above -/
theorem rl_pm_push {w m w2 : Int32} {b p q : Nat → Int32} {x : Int32} (h : rl_pm w m b p q) (h0 : 0 ≤ w.toInt) (h1 : w2.toInt = w.toInt + 1) (h2 : x.toInt ≠ -2 ∧ x.toInt ≠ -3) : rl_pm w2 m (va_up b w.toNatClampNeg x) p q := fun i hi => by
  by_cases e : i = w.toNatClampNeg
  · subst e; simp only [va_up, if_pos]; exact ⟨fun e => absurd e h2.1, fun e => absurd e h2.2⟩
  · have e2 : w.toNatClampNeg = w.toInt.toNat := i_cl rfl
    simp only [va_up, if_neg e]; exact h i (by omega)
/-- a ? waits above -/
theorem rl_pm_ask {w m w2 m2 i0 : Int32} {b p q : Nat → Int32} {x : Int32} (h : rl_pm w m (b) p q) (hb : ∀ i : Nat, (i : Int) < w.toInt → True) (h0 : 0 ≤ w.toInt) (h1 : w2.toInt = w.toInt + 1) (hi : i0.toInt = w.toInt) (h2 : m.toInt ≤ m2.toInt) (h3 : 0 ≤ x.toInt ∧ x.toInt + 2 ≤ m2.toInt) : rl_pm w2 m2 (va_up b w.toNatClampNeg (-2)) (va_up p i0.toNatClampNeg x) q := fun i hi2 => by
  have e2 : w.toNatClampNeg = w.toInt.toNat := i_cl rfl
  have e3 : i0.toNatClampNeg = w.toInt.toNat := i_cl hi
  by_cases e : i = w.toInt.toNat
  · rw [e2, e3]; subst e; simp only [va_up, if_pos]; exact ⟨fun _ => h3, fun e => absurd e (by decide)⟩
  · rw [e2, e3]; simp only [va_up, if_neg e]
    obtain ⟨g1, g2⟩ := h i (by omega)
    exact ⟨fun e => by have := g1 e; omega, fun e => by have := g2 e; omega⟩
/-- the ? above becomes its : -/
theorem rl_pm_else {w m i0 i1 : Int32} {b p q : Nat → Int32} (h : rl_pm w m b p q) (h0 : 1 ≤ w.toInt) (hi : i0.toInt = w.toInt - 1) (hj : i1.toInt = w.toInt - 1) (ht : (b (w.toInt - 1).toNat).toInt = -2) : rl_pm w m (va_up b i1.toNatClampNeg (-3)) p (va_up q i0.toNatClampNeg m) := fun i hi2 => by
  have e3 : i0.toNatClampNeg = (w.toInt - 1).toNat := i_cl hi
  have e2 : i1.toNatClampNeg = (w.toInt - 1).toNat := i_cl hj
  have g := h i hi2
  by_cases e : i = (w.toInt - 1).toNat
  · rw [e2, e3]; subst e; simp only [va_up, if_pos]
    have := g.1 ht
    exact ⟨fun e => absurd e (by decide), fun _ => ⟨this.1, this.2, Int.le_refl _⟩⟩
  · rw [e2, e3]; simp only [va_up, if_neg e]; exact g
theorem au_red_pop {b x : Int} {l : List Int} (h : b ≤ x) : au_red b (x :: l) = au_red b l := by
  unfold au_red; rw [List.dropWhile_cons, if_pos (decide_eq_true h)]
theorem au_red_stop {b x : Int} {l : List Int} (h : x < b) : au_red b (x :: l) = x :: l := by
  unfold au_red; rw [List.dropWhile_cons, if_neg (by simp; omega)]
theorem au_fin_pop {l : List Int} : au_fin (9 :: l) = au_fin l := by
  unfold au_fin; rw [List.dropWhile_cons, if_pos (by decide)]
theorem au_fin_stop {x : Int} {l : List Int} (h : x ≠ 9) : au_fin (x :: l) = x :: l := by
  unfold au_fin; rw [List.dropWhile_cons, if_neg (by simp [h])]
theorem au_all_pop {x : Int} {l : List Int} (h : 1 ≤ x ∨ x = -3) : au_all (x :: l) = au_all l := by
  unfold au_all; rw [List.dropWhile_cons, if_pos (decide_eq_true h)]
theorem au_all_stop {x : Int} {l : List Int} (h : ¬ (1 ≤ x ∨ x = -3)) : au_all (x :: l) = x :: l := by
  unfold au_all; rw [List.dropWhile_cons, if_neg (by simpa using h)]
theorem au_all_red {l : List Int} : au_all (au_red 1 l) = au_all l := by
  induction l with
  | nil => rfl
  | cons x l ih =>
    by_cases h : (1 : Int) ≤ x
    · rw [au_red_pop h, ih, au_all_pop (Or.inl h)]
    · rw [au_red_stop (by omega)]
theorem au_op_red {b : Int} {l : List Int} (hb : 1 ≤ b) (h : au_ok l) (hh : ∀ y r, l = y :: r → y ≠ 9) : au_op (au_red b l) = au_op l := by
  induction l with
  | nil => rfl
  | cons x l ih =>
    obtain ⟨h1, h2, h3⟩ := h
    by_cases hx : b ≤ x
    · have hx9 := hh x l rfl
      have hx7 : 1 ≤ x ∧ x ≤ 7 := by unfold au_el at h1; omega
      rw [au_red_pop hx, ih h2 (fun y r e => ((h3 y r e).1 hx7).2)]
      simp [au_op, hx7]
    · rw [au_red_stop (by omega)]
def kf (f : Nat → Int32) : Nat → Int := fun i => (f i).toInt
def wf (f : Nat → Int64) : Nat → Int := fun i => (f i).toInt
theorem sk_push2 {f : Nat → Int32} {x w w2 : Int32} (h0 : 0 ≤ w.toInt) (h : w2.toInt = w.toInt + 1) : sk (va_up f w.toNatClampNeg x) w2.toInt.toNat = x.toInt :: sk f w.toInt.toNat := by
  rw [show w2.toInt.toNat = w.toInt.toNat + 1 by omega, i_cl (rfl : w.toInt = w.toInt)]; exact sk_push
theorem sk_pop {f : Nat → Int32} {w i : Int32} (h : 1 ≤ w.toInt) (hi : i.toInt = w.toInt - 1) : sk f w.toInt.toNat = (f i.toNatClampNeg).toInt :: sk f (w.toInt - 1).toNat := by
  rw [sk_top (show 0 < w.toInt.toNat by omega), i_cl hi, show w.toInt.toNat - 1 = (w.toInt - 1).toNat by omega]
theorem au_bn_7 {k w : Int} : au_bn k w = 7 ↔ ((k = 5 ∧ w = 42) ∨ (k = 2 ∧ (w = 8 ∨ w = 9))) := by
  unfold au_bn
  constructor
  · intro h
    split at h
    · assumption
    · repeat' split at h
      all_goals omega
  · intro h; rw [if_pos h]
theorem au_bn_6 {k w : Int} : au_bn k w = 6 ↔ (k = 5 ∧ (w = 43 ∨ w = 45)) := by
  unfold au_bn
  constructor
  · intro h
    repeat' split at h
    all_goals omega
  · intro h; rw [if_neg (by omega), if_pos h]
theorem au_bn_5 {k w : Int} : au_bn k w = 5 ↔ (k = 5 ∧ (w = 261 ∨ w = 262 ∨ w = 263)) := by
  unfold au_bn
  constructor
  · intro h
    repeat' split at h
    all_goals omega
  · intro h; rw [if_neg (by omega), if_neg (by omega), if_pos h]
theorem au_bn_4 {k w : Int} : au_bn k w = 4 ↔ (k = 5 ∧ (w = 257 ∨ w = 258 ∨ w = 60 ∨ w = 259 ∨ w = 62 ∨ w = 260)) := by
  unfold au_bn
  constructor
  · intro h
    repeat' split at h
    all_goals omega
  · intro h; rw [if_neg (by omega), if_neg (by omega), if_neg (by omega), if_pos h]
theorem au_bn_3 {k w : Int} : au_bn k w = 3 ↔ (k = 5 ∧ w = 38) := by
  unfold au_bn
  constructor
  · intro h
    repeat' split at h
    all_goals omega
  · intro h; rw [if_neg (by omega), if_neg (by omega), if_neg (by omega), if_neg (by omega), if_pos h]
theorem au_bn_2 {k w : Int} : au_bn k w = 2 ↔ (k = 5 ∧ w = 94) := by
  unfold au_bn
  constructor
  · intro h
    repeat' split at h
    all_goals omega
  · intro h; rw [if_neg (by omega), if_neg (by omega), if_neg (by omega), if_neg (by omega), if_neg (by omega), if_pos h]
theorem au_bn_1 {k w : Int} : au_bn k w = 1 ↔ (k = 5 ∧ w = 124) := by
  unfold au_bn
  constructor
  · intro h
    repeat' split at h
    all_goals omega
  · intro h; rw [if_neg (by omega), if_neg (by omega), if_neg (by omega), if_neg (by omega), if_neg (by omega), if_neg (by omega), if_pos h]
theorem au_bn_0 {k w : Int} (h7 : au_bn k w ≠ 7) (h6 : au_bn k w ≠ 6) (h5 : au_bn k w ≠ 5) (h4 : au_bn k w ≠ 4) (h3 : au_bn k w ≠ 3) (h2 : au_bn k w ≠ 2) (h1 : au_bn k w ≠ 1) : au_bn k w = 0 := by
  have := au_bn_rg k w; omega
theorem au_op_fin : ∀ (l : List Int), au_op l + (au_fin l).length = au_op (au_fin l) + l.length
  | [] => rfl
  | x :: l => by
    by_cases h : x = 9
    · subst h
      rw [au_fin_pop]
      have := au_op_fin l
      simp only [au_op, List.length_cons]
      rw [if_neg (by omega)]
      omega
    · rw [au_fin_stop h]
theorem ra_0 {l : List Int} (h : au_ok l) (hh : ∀ y r, l = y :: r → y ≠ 9) : au_all (au_red 1 l) = au_all l ∧ (au_op (au_red 1 l) : Int) = au_op l ∧ au_ok (au_red 1 l) ∧ ∀ y r, au_red 1 l = y :: r → y < 1 :=
  ⟨au_all_red, by rw [au_op_red (by decide) h hh], au_ok_dw h, fun y r e => by
    have h1 := au_dw_hd (show l.dropWhile _ = y :: r from e)
    have h2 : ¬ (1 : Int) ≤ y := of_decide_eq_false h1
    omega⟩
theorem ra_s {l l1 : List Int} (e : l = -3 :: l1) (h : au_ok l) : au_all (au_red 1 l1) = au_all l ∧ (au_op (au_red 1 l1) : Int) = au_op l - 1 ∧ au_ok (au_red 1 l1) ∧ ∀ y r, au_red 1 l1 = y :: r → y < 1 := by
  subst e
  have g := ra_0 h.2.1 (fun y r e => by have := (h.2.2 y r e).2 (Or.inr rfl); omega)
  refine ⟨?_, ?_, g.2.2.1, g.2.2.2⟩
  · rw [g.1, au_all_pop (Or.inr rfl)]
  · rw [g.2.1]; simp only [au_op]; rw [if_neg (by omega)]; omega
theorem ra_e {l : List Int} (h : ∀ y r, l = y :: r → y < 1) (h3 : ∀ y r, l = y :: r → y ≠ -3) : au_all l = l := by
  cases l with
  | nil => rfl
  | cons x r =>
    have := h x r rfl
    have := h3 x r rfl
    exact au_all_stop (by omega)
end
section
/-! The same, as the methods that read tokens use it. -/
def wp (a : Nat → Int32) (t : Int32) : Int := (a t.toInt.toNat).toInt
section WP
variable {T t u : Int32} {k a : Nat → Int32} {w : Nat → Int64}
theorem wp_v (h : rl_w T k w a) (h0 : 0 ≤ t.toInt) (h1 : u.toInt = t.toInt + 1) (h2 : u.toInt < T.toInt) : wp a t + wl (kf k t.toInt.toNat) (wf w t.toInt.toNat) ≤ wp a u := by
  have h3 := (h t.toInt.toNat (by omega)).2 (by omega)
  unfold wp
  rw [show u.toInt.toNat = t.toInt.toNat + 1 by omega]
  exact h3
theorem wp_i (h : rl_w T k w a) : ∀ (d i : Nat), ((i + d : Nat) : Int) < T.toInt → (a i).toInt + (d : Int) ≤ (a (i + d)).toInt
  | 0, i, _ => by simp
  | d + 1, i, h1 => by
    have h2 := wp_i h d i (by omega)
    have h3 := (h (i + d) (by omega)).2 (by omega)
    have h4 := wl_1 (k (i + d)).toInt (w (i + d)).toInt
    rw [show i + (d + 1) = i + d + 1 by omega]
    push_cast
    omega
theorem wp_n (h : rl_w T k w a) (h0 : 0 ≤ t.toInt) (h1 : t.toInt ≤ u.toInt) (h2 : u.toInt < T.toInt) : wp a t + (u.toInt - t.toInt) ≤ wp a u := by
  have h3 := wp_i h (u.toInt - t.toInt).toNat t.toInt.toNat (by omega)
  unfold wp
  rw [show u.toInt.toNat = t.toInt.toNat + (u.toInt - t.toInt).toNat by omega]
  omega
theorem wp_r (h : rl_w T k w a) (h0 : 0 ≤ t.toInt) (h2 : t.toInt < T.toInt) : 0 ≤ wp a t ∧ wp a t ≤ 1000 := (h t.toInt.toNat (by omega)).1
end WP
def au_q : List Int → Nat
  | [] => 0
  | x :: l => (if x = -2 then 1 else 0) + au_q l
theorem au_q_c {x : Int} {l : List Int} (h : x ≠ -2) : au_q (x :: l) = au_q l := by simp [au_q, h]
theorem au_q_2 {l : List Int} : au_q (-2 :: l) = au_q l + 1 := by simp [au_q]; omega
theorem au_q_dw {p : Int → Bool} (hp : p (-2) = false) : ∀ {l : List Int}, au_q (l.dropWhile p) = au_q l
  | [] => rfl
  | x :: l => by
    rw [List.dropWhile_cons]
    split
    · rename_i hx
      rw [au_q_dw hp, au_q_c]
      intro e; subst e; rw [hp] at hx; cases hx
    · rfl
theorem au_q_fin {l : List Int} : au_q (au_fin l) = au_q l := au_q_dw (by decide)
theorem au_q_red {b : Int} (hb : 1 ≤ b) {l : List Int} : au_q (au_red b l) = au_q l := au_q_dw (by simp; omega)
theorem au_q_all {l : List Int} : au_q (au_all l) = au_q l := au_q_dw (by decide)
end
section
set_option maxHeartbeats 4000000 in
set_option maxRecDepth 100000 in
theorem n_emit {sk : xK} {base d n sl : Nat} {SH : Nat → Nat × Nat} {FI : Nat → Nat → Int32} {FL : Nat → Nat → Int64} {FR : Nat → Nat → Option Nat} (hS : h_S n SH) (hF : h_FR FR) (hI : g_I FI) (a1 : Int32) (g0 : (FI 121 73).toInt ≤ 29999) (rel_pm : rl_pm (FI 121 90) (FI 121 73) (FI 166) (FI 167) (FI 168)) : hw sk base d none 219 0 [(0, .ref (base + 121)), (1, .int (a1))] [] (n, sl, SH, FI, FL, FR) (h_V (fun s => ∃ FI', s = (n, sl, SH, FI', FL, FR) ∧ g_I FI' ∧ g_fr n SH [(121, 73)] [154] [] FI FI' ∧ ((FI' 121 73).toInt = (FI 121 73).toInt + 1) ∧ (rl_pm (FI' 121 90) (FI' 121 73) (FI' 166) (FI' 167) (FI' 168)))) := by
  have rg_a1 := i_rng a1
  obtain ⟨x1, h2⟩ : ∃ y, FI 121 73 = y := ⟨_, rfl⟩
  have h2l := congrArg Int32.toInt h2
  have b3 := gI_121_73 hI; rw [h2] at b3
  refine hw_aloadn (aX12_emit 0 rfl) rfl ?_
  refine hw_get (v := .int (x1)) (aX12_emit 1 rfl) wf_RX12_493 (c121 hS) (s121 hS) (by decide) (congrArg Value.int (show FI 121 73 = x1 from h2)) ?_
  refine hw_sp (v := (4000 : Int32)) (aX12_emit 2 rfl) (by decide) ?_
  refine hw_icge (tgt := 24) (aX12_emit 3 rfl) (by decide) rfl (by decide : (4000 : Int32).toInt = 4000) (fun cd4 => ?_) (fun cd4 => ?_)
  · refine hw_aloadn (aX12_emit 12 rfl) rfl ?_
    refine hw_aloadn (aX12_emit 13 rfl) rfl ?_
    refine hw_get (v := .int (x1)) (aX12_emit 14 rfl) wf_RX12_493 (c121 hS) (s121 hS) (by decide) (congrArg Value.int (show FI 121 73 = x1 from h2)) ?_
    refine hw_ic (v := (1 : Int32)) (aX12_emit 15 rfl) (by decide) ?_
    refine xw_iadd (aX12_emit 16 rfl) ?_
    refine hw_tie (A := ((x1).toInt) + (1)) (i_add rfl (by decide : (1 : Int32).toInt = 1) (by omega) (by omega)) (fun x5 e6 => ?_)
    refine hv_puti (aX12_emit 17 rfl) wf_RX12_493 (c121 hS) (s121 hS) (by decide) rfl rfl (fun FI7 u8 => ?_)
    have rl9 : rl_pm (FI7 121 90) (FI7 121 73) (FI7 166) (FI7 167) (FI7 168) := by have z0 := congrArg Int32.toInt (show FI 121 73 = x1 from h2); have z1 := congrArg Int32.toInt (show FI7 121 73 = x5 from up_eq u8); have := (e6 : (x5).toInt = ((x1).toInt) + (1)); rw [show FI7 166 = FI 166 from up_row u8 (by decide) rfl, show FI7 167 = FI 167 from up_row u8 (by decide) rfl, show FI7 168 = FI 168 from up_row u8 (by decide) rfl, show FI7 121 90 = FI 121 90 from up_k u8 (by decide) rfl]; exact rl_pm_mono rel_pm (by omega) (by omega)
    have hI10 : g_I FI7 := gU_121_73 hI u8 (by have := (e6 : (x5).toInt = ((x1).toInt) + (1)); omega) (by have := (e6 : (x5).toInt = ((x1).toInt) + (1)); omega)
    refine xw_vret (aX12_emit 18 rfl) rfl ?_
    exact ⟨rfl, FI7, rfl, hI10, (gf_f gf_rf u8 (by decide)), (by have := congrArg Int32.toInt (show FI7 121 73 = x5 from up_eq u8); have := (e6 : (x5).toInt = ((x1).toInt) + (1)); omega), (show rl_pm (FI7 121 90) (FI7 121 73) (FI7 166) (FI7 167) (FI7 168) from rl9)⟩
  · refine hw_aloadn (aX12_emit 4 rfl) rfl ?_
    refine hw_get (v := .ref (base + 154)) (aX12_emit 5 rfl) wf_RX12_120 (c121 hS) (s121 hS) (by decide) (congrArg (fun r => va_rf (h_rf base r)) (r121_72 hF)) ?_
    refine hw_aloadn (aX12_emit 6 rfl) rfl ?_
    refine hw_get (v := .int (x1)) (aX12_emit 7 rfl) wf_RX12_493 (c121 hS) (s121 hS) (by decide) (congrArg Value.int (show FI 121 73 = x1 from h2)) ?_
    refine xw_iloadn (aX12_emit 8 rfl) rfl ?_
    refine hw_sp (v := (255 : Int32)) (aX12_emit 9 rfl) (by decide) ?_
    refine xw_iand (aX12_emit 10 rfl) ?_
    refine hw_tib (lo := 0) (hi := 255) (i_and (x := a1) (m := (255 : Int32)) (M := 255) (by decide) (by decide)) (fun x11 b12 => ?_)
    refine hv_iast (k := (x1).toNatClampNeg) (aX12_emit 11 rfl) (c154 hS) (s154 hS) (h_in rfl (by omega) (by omega)) rfl (fun FI13 u14 => ?_)
    have rl15 : rl_pm (FI13 121 90) (FI13 121 73) (FI13 166) (FI13 167) (FI13 168) := by rw [show FI13 166 = FI 166 from up_row u14 (by decide) rfl, show FI13 167 = FI 167 from up_row u14 (by decide) rfl, show FI13 168 = FI 168 from up_row u14 (by decide) rfl, show FI13 121 90 = FI 121 90 from up_c u14 (by decide) rfl, show FI13 121 73 = FI 121 73 from up_c u14 (by decide) rfl]; exact rel_pm
    have hI16 : g_I FI13 := gU_154 hI u14 (by omega) (by omega)
    refine hw_aloadn (aX12_emit 12 rfl) rfl ?_
    refine hw_aloadn (aX12_emit 13 rfl) rfl ?_
    refine hw_get (v := .int (x1)) (aX12_emit 14 rfl) wf_RX12_493 (c121 hS) (s121 hS) (by decide) (congrArg Value.int (show FI13 121 73 = x1 from (up_c u14 (by decide) (h2)))) ?_
    refine hw_ic (v := (1 : Int32)) (aX12_emit 15 rfl) (by decide) ?_
    refine xw_iadd (aX12_emit 16 rfl) ?_
    refine hw_tie (A := ((x1).toInt) + (1)) (i_add rfl (by decide : (1 : Int32).toInt = 1) (by omega) (by omega)) (fun x17 e18 => ?_)
    refine hv_puti (aX12_emit 17 rfl) wf_RX12_493 (c121 hS) (s121 hS) (by decide) rfl rfl (fun FI19 u20 => ?_)
    have rl21 : rl_pm (FI19 121 90) (FI19 121 73) (FI19 166) (FI19 167) (FI19 168) := by have z0 := congrArg Int32.toInt (show FI13 121 73 = x1 from (up_c u14 (by decide) (h2))); have z1 := congrArg Int32.toInt (show FI19 121 73 = x17 from up_eq u20); have := (e18 : (x17).toInt = ((x1).toInt) + (1)); rw [show FI19 166 = FI13 166 from up_row u20 (by decide) rfl, show FI19 167 = FI13 167 from up_row u20 (by decide) rfl, show FI19 168 = FI13 168 from up_row u20 (by decide) rfl, show FI19 121 90 = FI13 121 90 from up_k u20 (by decide) rfl]; exact rl_pm_mono rl15 (by omega) (by omega)
    have hI22 : g_I FI19 := gU_121_73 hI16 u20 (by have := (e18 : (x17).toInt = ((x1).toInt) + (1)); omega) (by have := (e18 : (x17).toInt = ((x1).toInt) + (1)); omega)
    refine xw_vret (aX12_emit 18 rfl) rfl ?_
    exact ⟨rfl, FI19, rfl, hI22, (gf_f (gf_a gf_rf u14 (by decide)) u20 (by decide)), (by have := congrArg Int32.toInt (show FI19 121 73 = x17 from up_eq u20); have := (e18 : (x17).toInt = ((x1).toInt) + (1)); omega), (show rl_pm (FI19 121 90) (FI19 121 73) (FI19 166) (FI19 167) (FI19 168) from rl21)⟩
set_option maxHeartbeats 4000000 in
set_option maxRecDepth 100000 in
theorem n_emits {sk : xK} {base d n sl : Nat} {SH : Nat → Nat × Nat} {FI : Nat → Nat → Int32} {FL : Nat → Nat → Int64} {FR : Nat → Nat → Option Nat} (hS : h_S n SH) (hF : h_FR FR) (hI : g_I FI) (a1 : Int64) (a2 : Int32) (g0 : (FI 121 73).toInt ≤ 29900) (g1 : 0 ≤ (a2).toInt ∧ (a2).toInt ≤ 8) (rel_pm : rl_pm (FI 121 90) (FI 121 73) (FI 166) (FI 167) (FI 168)) : hw sk base (d + 1) none 220 0 [(0, .ref (base + 121)), (1, .long (a1)), (3, .int (a2))] [] (n, sl, SH, FI, FL, FR) (h_V (fun s => ∃ FI', s = (n, sl, SH, FI', FL, FR) ∧ g_I FI' ∧ g_fr n SH [(121, 73)] [154] [] FI FI' ∧ ((FI' 121 73).toInt = (FI 121 73).toInt + (a2).toInt) ∧ (rl_pm (FI' 121 90) (FI' 121 73) (FI' 166) (FI' 167) (FI' 168)))) := by
  have rg_a1 := l_rng a1
  have rg_a2 := i_rng a2
  obtain ⟨x1, h2⟩ : ∃ y, FI 121 73 = y := ⟨_, rfl⟩
  have h2l := congrArg Int32.toInt h2
  have b3 := gI_121_73 hI; rw [h2] at b3
  refine hw_ic (v := (0 : Int32)) (aX12_emits 0 rfl) (by decide) ?_
  refine xw_istore (L2 := [(4, .int ((0 : Int32))), (0, .ref (base + 121)), (1, .long (a1)), (3, .int (a2))]) (aX12_emits 1 rfl) (by decide) rfl ?_
  have lp11 : ∀ (m : Nat) (y4 : Int32) (FIv4 : Nat → Nat → Int32), (g_fr n SH [(121, 73)] [154] [] FI FIv4) → (g_I FIv4) → (rl_pm (FIv4 121 90) (FIv4 121 73) (FIv4 166) (FIv4 167) (FIv4 168)) → (0 ≤ (y4).toInt ∧ (y4).toInt ≤ 8) → ((y4).toInt ≤ (a2).toInt) → ((FIv4 121 73).toInt = (FI 121 73).toInt + (y4).toInt) → (a2).toInt - (y4).toInt < m → hw sk base (d + 1) none 220 3 [(4, .int (y4)), (0, .ref (base + 121)), (1, .long (a1)), (3, .int (a2))] [] (n, sl, SH, FIv4, FL, FR) (h_V (fun s => ∃ FI', s = (n, sl, SH, FI', FL, FR) ∧ g_I FI' ∧ g_fr n SH [(121, 73)] [154] [] FI FI' ∧ ((FI' 121 73).toInt = (FI 121 73).toInt + (a2).toInt) ∧ (rl_pm (FI' 121 90) (FI' 121 73) (FI' 166) (FI' 167) (FI' 168)))) := by
    intro m
    induction m with
    | zero => intro y4 FIv4 fr5 hI6 rl7 iv8 iv9 iv10 hm; omega
    | succ m ih =>
      intro y4 FIv4 fr5 hI6 rl7 iv8 iv9 iv10 hm
      have rg_y4 := i_rng y4
      obtain ⟨x12, h13⟩ : ∃ y, FIv4 121 73 = y := ⟨_, rfl⟩
      have h13l := congrArg Int32.toInt h13
      have b14 := gI_121_73 hI6; rw [h13] at b14
      refine xw_iload (aX12_emits 2 rfl) rfl ?_
      refine xw_iloadn (aX12_emits 3 rfl) rfl ?_
      refine hw_icge (tgt := 27) (aX12_emits 4 rfl) (by decide) rfl rfl (fun cd15 => ?_) (fun cd15 => ?_)
      · refine xw_vret (aX12_emits 15 rfl) rfl ?_
        exact ⟨rfl, FIv4, rfl, hI6, fr5, (by have := congrArg Int32.toInt (show FIv4 121 73 = x12 from h13); omega), (show rl_pm (FIv4 121 90) (FIv4 121 73) (FIv4 166) (FIv4 167) (FIv4 168) from rl7)⟩
      · refine hw_aloadn (aX12_emits 5 rfl) rfl ?_
        refine xw_lloadn (aX12_emits 6 rfl) rfl ?_
        refine hw_bp (v := (8 : Int32)) (aX12_emits 7 rfl) (by decide) ?_
        refine xw_iload (aX12_emits 8 rfl) rfl ?_
        refine xw_imul (aX12_emits 9 rfl) ?_
        refine hw_tie (A := (8) * ((y4).toInt)) (i_mul (by decide : (8 : Int32).toInt = 8) rfl (by omega) (by omega)) (fun x16 e17 => ?_)
        refine xw_lshr (aX12_emits 10 rfl) ?_
        refine hw_tl (fun x18 => ?_)
        have b19 := l_rng x18
        refine xw_l2i (aX12_emits 11 rfl) ?_
        refine hw_ti (fun x20 => ?_)
        have b21 := i_rng x20
        refine hw_callV (Bs := [.int (x20)]) (rest := []) (aX12_emits 12 rfl) wc_RX12_496 (by decide) rfl wi_yX12_emit wv_yX12_emit (c121 hS) (s121 hS) rfl rfl rfl (Nat.le_of_ble_eq_true rfl) (Nat.le_of_ble_eq_true rfl) (n_emit (d := d) hS hF hI6 (x20) (by have := congrArg Int32.toInt (show FIv4 121 73 = x12 from h13); omega) (show rl_pm (FIv4 121 90) (FIv4 121 73) (FIv4 166) (FIv4 167) (FIv4 168) from rl7)) (fun v22 sv23 p24 => ?_)
        have := congrArg Int32.toInt (show FIv4 121 73 = x12 from h13)
        obtain ⟨rfl, FI26, rfl, hI27, f28, t29, rl30⟩ := p24
        obtain ⟨x31, h32⟩ : ∃ y, FI26 121 73 = y := ⟨_, rfl⟩
        have h32l := congrArg Int32.toInt h32
        have b33 := gI_121_73 hI27; rw [h32] at b33
        show hw sk base _ _ _ _ _ [] _ _
        obtain ⟨x34, q36⟩ : ∃ y : Int32, (y4) + Int32.ofInt (1) = y := ⟨_, rfl⟩
        have e35 : (x34).toInt = (y4).toInt + (1) := by rw [← q36]; exact i_add rfl (by decide) (by omega) (by omega)
        refine xw_iinc (L2 := [(4, .int (x34)), (0, .ref (base + 121)), (1, .long (a1)), (3, .int (a2))]) (aX12_emits 13 rfl) rfl (by decide) (by rw [q36]; rfl) ?_
        refine xw_goto (tgt := 3) (aX12_emits 14 rfl) (by decide) ?_
        exact hw_L (ih (x34) FI26 (gf_tr ex_rf fr5 f28 rfl rfl rfl) hI27 (show rl_pm (FI26 121 90) (FI26 121 73) (FI26 166) (FI26 167) (FI26 168) from rl30) (by have := (e35 : (x34).toInt = (y4).toInt + (1)); omega) (by have := (e35 : (x34).toInt = (y4).toInt + (1)); omega) (by have := (e35 : (x34).toInt = (y4).toInt + (1)); have := congrArg Int32.toInt (show FI26 121 73 = x31 from h32); omega) (by have := (e35 : (x34).toInt = (y4).toInt + (1)); omega)) ⟨rfl, rfl, rfl, rfl, trivial⟩
  exact hw_L (lp11 (((a2).toInt - 0 : Int).toNat + 1) ((0 : Int32)) FI gf_rf hI (show rl_pm (FI 121 90) (FI 121 73) (FI 166) (FI 167) (FI 168) from rel_pm) (by have := ((by decide : (0 : Int32).toInt = 0) : ((0 : Int32)).toInt = 0); omega) (by have := ((by decide : (0 : Int32).toInt = 0) : ((0 : Int32)).toInt = 0); omega) (by have := ((by decide : (0 : Int32).toInt = 0) : ((0 : Int32)).toInt = 0); have := congrArg Int32.toInt (show FI 121 73 = x1 from h2); omega) (by have := ((by decide : (0 : Int32).toInt = 0) : ((0 : Int32)).toInt = 0); omega)) ⟨rfl, rfl, rfl, rfl, trivial⟩
set_option maxHeartbeats 4000000 in
set_option maxRecDepth 100000 in
theorem n_emitted {sk : xK} {base d n sl : Nat} {SH : Nat → Nat × Nat} {FI : Nat → Nat → Int32} {FL : Nat → Nat → Int64} {FR : Nat → Nat → Option Nat} (hS : h_S n SH) (hF : h_FR FR) (hI : g_I FI) (a1 : Int32) (g0 : (FI 121 73).toInt ≤ 29900) (rel_pm : rl_pm (FI 121 90) (FI 121 73) (FI 166) (FI 167) (FI 168)) : hw sk base (d + 1) none 233 0 [(0, .ref (base + 121)), (1, .int (a1))] [] (n, sl, SH, FI, FL, FR) (h_V (fun s => ∃ FI', s = (n, sl, SH, FI', FL, FR) ∧ g_I FI' ∧ g_fr n SH [(121, 73)] [154] [] FI FI' ∧ ((FI' 121 73).toInt ≤ (FI 121 73).toInt + 2) ∧ ((FI 121 73).toInt ≤ (FI' 121 73).toInt) ∧ (rl_pm (FI' 121 90) (FI' 121 73) (FI' 166) (FI' 167) (FI' 168)))) := by
  have rg_a1 := i_rng a1
  obtain ⟨x1, h2⟩ : ∃ y, FI 121 73 = y := ⟨_, rfl⟩
  have h2l := congrArg Int32.toInt h2
  have b3 := gI_121_73 hI; rw [h2] at b3
  refine xw_iloadn (aX12_emitted 0 rfl) rfl ?_
  refine hw_sp (v := (256 : Int32)) (aX12_emitted 1 rfl) (by decide) ?_
  refine hw_icge (tgt := 15) (aX12_emitted 2 rfl) (by decide) rfl (by decide : (256 : Int32).toInt = 256) (fun cd4 => ?_) (fun cd4 => ?_)
  · refine hw_aloadn (aX12_emitted 7 rfl) rfl ?_
    refine hw_sp (v := (148 : Int32)) (aX12_emitted 8 rfl) (by decide) ?_
    refine hw_callV (Bs := [.int ((148 : Int32))]) (rest := []) (aX12_emitted 9 rfl) wc_RX12_496 (by decide) rfl wi_yX12_emit wv_yX12_emit (c121 hS) (s121 hS) rfl rfl rfl (Nat.le_of_ble_eq_true rfl) (Nat.le_of_ble_eq_true rfl) (n_emit (d := d) hS hF hI ((148 : Int32)) (by have := congrArg Int32.toInt (show FI 121 73 = x1 from h2); omega) (show rl_pm (FI 121 90) (FI 121 73) (FI 166) (FI 167) (FI 168) from rel_pm)) (fun v5 sv6 p7 => ?_)
    have := congrArg Int32.toInt (show FI 121 73 = x1 from h2)
    obtain ⟨rfl, FI9, rfl, hI10, f11, t12, rl13⟩ := p7
    obtain ⟨x14, h15⟩ : ∃ y, FI9 121 73 = y := ⟨_, rfl⟩
    have h15l := congrArg Int32.toInt h15
    have b16 := gI_121_73 hI10; rw [h15] at b16
    show hw sk base _ _ _ _ _ [] _ _
    refine hw_aloadn (aX12_emitted 10 rfl) rfl ?_
    refine xw_iloadn (aX12_emitted 11 rfl) rfl ?_
    refine hw_sp (v := (256 : Int32)) (aX12_emitted 12 rfl) (by decide) ?_
    refine xw_isub (aX12_emitted 13 rfl) ?_
    refine hw_tie (A := ((a1).toInt) - (256)) (i_sub rfl (by decide : (256 : Int32).toInt = 256) (by omega) (by omega)) (fun x17 e18 => ?_)
    refine hw_callV (Bs := [.int (x17)]) (rest := []) (aX12_emitted 14 rfl) wc_RX12_496 (by decide) rfl wi_yX12_emit wv_yX12_emit (c121 hS) (s121 hS) rfl rfl rfl (Nat.le_of_ble_eq_true rfl) (Nat.le_of_ble_eq_true rfl) (n_emit (d := d) hS hF hI10 (x17) (by have := congrArg Int32.toInt (show FI9 121 73 = x14 from h15); omega) (show rl_pm (FI9 121 90) (FI9 121 73) (FI9 166) (FI9 167) (FI9 168) from rl13)) (fun v19 sv20 p21 => ?_)
    have := congrArg Int32.toInt (show FI9 121 73 = x14 from h15)
    obtain ⟨rfl, FI23, rfl, hI24, f25, t26, rl27⟩ := p21
    obtain ⟨x28, h29⟩ : ∃ y, FI23 121 73 = y := ⟨_, rfl⟩
    have h29l := congrArg Int32.toInt h29
    have b30 := gI_121_73 hI24; rw [h29] at b30
    show hw sk base _ _ _ _ _ [] _ _
    refine xw_vret (aX12_emitted 15 rfl) rfl ?_
    exact ⟨rfl, FI23, rfl, hI24, (gf_tr ex_rf (gf_tr ex_rf gf_rf f11 rfl rfl rfl) f25 rfl rfl rfl), (by have := congrArg Int32.toInt (show FI23 121 73 = x28 from h29); omega), (by have := congrArg Int32.toInt (show FI23 121 73 = x28 from h29); omega), (show rl_pm (FI23 121 90) (FI23 121 73) (FI23 166) (FI23 167) (FI23 168) from rl27)⟩
  · refine hw_aloadn (aX12_emitted 3 rfl) rfl ?_
    refine xw_iloadn (aX12_emitted 4 rfl) rfl ?_
    refine hw_callV (Bs := [.int (a1)]) (rest := []) (aX12_emitted 5 rfl) wc_RX12_496 (by decide) rfl wi_yX12_emit wv_yX12_emit (c121 hS) (s121 hS) rfl rfl rfl (Nat.le_of_ble_eq_true rfl) (Nat.le_of_ble_eq_true rfl) (n_emit (d := d) hS hF hI (a1) (by have := congrArg Int32.toInt (show FI 121 73 = x1 from h2); omega) (show rl_pm (FI 121 90) (FI 121 73) (FI 166) (FI 167) (FI 168) from rel_pm)) (fun v31 sv32 p33 => ?_)
    have := congrArg Int32.toInt (show FI 121 73 = x1 from h2)
    obtain ⟨rfl, FI35, rfl, hI36, f37, t38, rl39⟩ := p33
    obtain ⟨x40, h41⟩ : ∃ y, FI35 121 73 = y := ⟨_, rfl⟩
    have h41l := congrArg Int32.toInt h41
    have b42 := gI_121_73 hI36; rw [h41] at b42
    show hw sk base _ _ _ _ _ [] _ _
    refine xw_goto (tgt := 31) (aX12_emitted 6 rfl) (by decide) ?_
    refine xw_vret (aX12_emitted 15 rfl) rfl ?_
    exact ⟨rfl, FI35, rfl, hI36, (gf_tr ex_rf gf_rf f37 rfl rfl rfl), (by have := congrArg Int32.toInt (show FI35 121 73 = x40 from h41); omega), (by have := congrArg Int32.toInt (show FI35 121 73 = x40 from h41); omega), (show rl_pm (FI35 121 90) (FI35 121 73) (FI35 166) (FI35 167) (FI35 168) from rl39)⟩
def nX12_unsigned : Nat := 0xb1f001b688212ae5ffa7427b071021f001b680800011887ff30114212a19009e94f3011421421f
theorem bX12_unsigned : cX12_unsigned.data.toList.map UInt8.toNat = x_un nX12_unsigned 39 := by decide +kernel
def iX12_unsigned : List (Nat × Jvm.ClassFile.Instr × Nat) := [(0, .lload_n 1, 1), (1, .lstore_n 3, 1), (2, .lload_n 3, 1), (3, .ldc2_w 499, 3), (6, .lcmp, 1), (7, .ifCond .le 25, 3), (10, .aload_n 0, 1), (11, .lload_n 3, 1), (12, .ldc2_w 499, 3), (15, .land, 1), (16, .l2i, 1), (17, .sipush 128, 3), (20, .ior, 1), (21, .invokevirtual 496, 3), (24, .lload_n 3, 1), (25, .bipush 7, 2), (27, .lshr, 1), (28, .lstore_n 3, 1), (29, .goto (-27), 3), (32, .aload_n 0, 1), (33, .lload_n 3, 1), (34, .l2i, 1), (35, .invokevirtual 496, 3), (38, .return_, 1)]
theorem dX12_unsigned : x_il nX12_unsigned 39 iX12_unsigned = true := by decide +kernel
theorem aX12_unsigned (k : Nat) {pc : Nat} {i : Jvm.ClassFile.Instr} {len : Nat} (hk : iX12_unsigned[k]? = some (pc, i, len)) : x_at xMM 221 pc i len yX12_unsigned 5 none := ⟨cX12_unsigned, rfl, x_il_ok bX12_unsigned dX12_unsigned k hk⟩
set_option maxHeartbeats 4000000 in
set_option maxRecDepth 100000 in
theorem n_unsigned {sk : xK} {base d n sl : Nat} {SH : Nat → Nat × Nat} {FI : Nat → Nat → Int32} {FL : Nat → Nat → Int64} {FR : Nat → Nat → Option Nat} (hS : h_S n SH) (hF : h_FR FR) (hI : g_I FI) (a1 : Int64) (g0 : (FI 121 73).toInt ≤ 29000) (g1 : 0 ≤ (a1).toInt ∧ (a1).toInt ≤ 9223372036854775807) (rel_pm : rl_pm (FI 121 90) (FI 121 73) (FI 166) (FI 167) (FI 168)) : hw sk base (d + 1) none 221 0 [(0, .ref (base + 121)), (1, .long (a1))] [] (n, sl, SH, FI, FL, FR) (h_V (fun s => ∃ FI', s = (n, sl, SH, FI', FL, FR) ∧ g_I FI' ∧ g_fr n SH [(121, 73)] [154] [] FI FI' ∧ ((FI 121 73).toInt < (FI' 121 73).toInt) ∧ ((FI' 121 73).toInt ≤ (FI 121 73).toInt + 10) ∧ ((a1).toInt ≤ 65535 → (FI' 121 73).toInt ≤ (FI 121 73).toInt + 3) ∧ (rl_pm (FI' 121 90) (FI' 121 73) (FI' 166) (FI' 167) (FI' 168)))) := by
  have rg_a1 := l_rng a1
  obtain ⟨x1, h2⟩ : ∃ y, FI 121 73 = y := ⟨_, rfl⟩
  have h2l := congrArg Int32.toInt h2
  have b3 := gI_121_73 hI; rw [h2] at b3
  refine xw_lloadn (aX12_unsigned 0 rfl) rfl ?_
  refine xw_lstoren (L2 := [(3, .long (a1)), (0, .ref (base + 121)), (1, .long (a1))]) (aX12_unsigned 1 rfl) (by decide) rfl ?_
  have lp12 : ∀ (m : Nat) (y3 : Int64) (FIv4 : Nat → Nat → Int32), (g_fr n SH [(121, 73)] [154] [] FI FIv4) → (g_I FIv4) → (rl_pm (FIv4 121 90) (FIv4 121 73) (FIv4 166) (FIv4 167) (FIv4 168)) → (0 ≤ (y3).toInt ∧ (y3).toInt ≤ 9223372036854775807) → ((FI 121 73).toInt ≤ (FIv4 121 73).toInt) → ((FIv4 121 73).toInt ≤ (FI 121 73).toInt + 9) → ((a1).toInt ≤ 65535 → (((FIv4 121 73).toInt = (FI 121 73).toInt ∧ (y3).toInt ≤ 65535) ∨ ((FIv4 121 73).toInt = (FI 121 73).toInt + 1 ∧ (y3).toInt ≤ 511) ∨ ((FIv4 121 73).toInt = (FI 121 73).toInt + 2 ∧ (y3).toInt ≤ 3))) → ((y3).toInt < p7 ((FIv4 121 73).toInt - (FI 121 73).toInt)) → (y3).toInt < m → hw sk base (d + 1) none 221 2 [(3, .long (y3)), (0, .ref (base + 121))] [] (n, sl, SH, FIv4, FL, FR) (h_V (fun s => ∃ FI', s = (n, sl, SH, FI', FL, FR) ∧ g_I FI' ∧ g_fr n SH [(121, 73)] [154] [] FI FI' ∧ ((FI 121 73).toInt < (FI' 121 73).toInt) ∧ ((FI' 121 73).toInt ≤ (FI 121 73).toInt + 10) ∧ ((a1).toInt ≤ 65535 → (FI' 121 73).toInt ≤ (FI 121 73).toInt + 3) ∧ (rl_pm (FI' 121 90) (FI' 121 73) (FI' 166) (FI' 167) (FI' 168)))) := by
    intro m
    induction m with
    | zero => intro y3 FIv4 fr5 hI6 rl7 iv8 iv9 iv10 iv11 xi2_0 hm; omega
    | succ m ih =>
      intro y3 FIv4 fr5 hI6 rl7 iv8 iv9 iv10 iv11 xi2_0 hm
      have rg_y3 := l_rng y3
      obtain ⟨x13, h14⟩ : ∃ y, FIv4 121 73 = y := ⟨_, rfl⟩
      have h14l := congrArg Int32.toInt h14
      have b15 := gI_121_73 hI6; rw [h14] at b15
      refine xw_lloadn (aX12_unsigned 2 rfl) rfl ?_
      refine xw_ldc2 (aX12_unsigned 3 rfl) wk_RX12_499 ?_
      refine hw_lcle (tgt := 32) (aX12_unsigned 4 rfl) (aX12_unsigned 5 rfl) (by decide) rfl (by decide : (127 : Int64).toInt = 127) (fun cd16 => ?_) (fun cd16 => ?_)
      · refine hw_aloadn (aX12_unsigned 19 rfl) rfl ?_
        refine xw_lloadn (aX12_unsigned 20 rfl) rfl ?_
        refine xw_l2i (aX12_unsigned 21 rfl) ?_
        refine hw_tie (A := (y3).toInt) (l_2i rfl (by omega) (by omega)) (fun x17 e18 => ?_)
        refine hw_callV (Bs := [.int (x17)]) (rest := []) (aX12_unsigned 22 rfl) wc_RX12_496 (by decide) rfl wi_yX12_emit wv_yX12_emit (c121 hS) (s121 hS) rfl rfl rfl (Nat.le_of_ble_eq_true rfl) (Nat.le_of_ble_eq_true rfl) (n_emit (d := d) hS hF hI6 (x17) (by have := congrArg Int32.toInt (show FIv4 121 73 = x13 from h14); omega) (show rl_pm (FIv4 121 90) (FIv4 121 73) (FIv4 166) (FIv4 167) (FIv4 168) from rl7)) (fun v19 sv20 p21 => ?_)
        have := congrArg Int32.toInt (show FIv4 121 73 = x13 from h14)
        obtain ⟨rfl, FI23, rfl, hI24, f25, t26, rl27⟩ := p21
        obtain ⟨x28, h29⟩ : ∃ y, FI23 121 73 = y := ⟨_, rfl⟩
        have h29l := congrArg Int32.toInt h29
        have b30 := gI_121_73 hI24; rw [h29] at b30
        show hw sk base _ _ _ _ _ [] _ _
        refine xw_vret (aX12_unsigned 23 rfl) rfl ?_
        exact ⟨rfl, FI23, rfl, hI24, (gf_tr ex_rf fr5 f25 rfl rfl rfl), (by have := congrArg Int32.toInt (show FI23 121 73 = x28 from h29); omega), (by have := congrArg Int32.toInt (show FI23 121 73 = x28 from h29); omega), (by have := congrArg Int32.toInt (show FI23 121 73 = x28 from h29); omega), (show rl_pm (FI23 121 90) (FI23 121 73) (FI23 166) (FI23 167) (FI23 168) from rl27)⟩
      · have h9 : (((FIv4 121 73).toInt - (FI 121 73).toInt) : Int) < 9 := by rcases Int.lt_or_le ((FIv4 121 73).toInt - (FI 121 73).toInt) 9 with h | h; { exact h }; { have := p7_9 xi2_0 (by omega); omega }
        refine hw_aloadn (aX12_unsigned 6 rfl) rfl ?_
        refine xw_lloadn (aX12_unsigned 7 rfl) rfl ?_
        refine xw_ldc2 (aX12_unsigned 8 rfl) wk_RX12_499 ?_
        refine xw_land (aX12_unsigned 9 rfl) ?_
        refine hw_tlb (lo := 0) (hi := 127) (l_and (x := y3) (m := (127 : Int64)) (M := 127) (by decide) (by decide)) (fun x31 b32 => ?_)
        refine xw_l2i (aX12_unsigned 10 rfl) ?_
        refine hw_tie (A := (x31).toInt) (l_2i rfl (by omega) (by omega)) (fun x33 e34 => ?_)
        refine hw_sp (v := (128 : Int32)) (aX12_unsigned 11 rfl) (by decide) ?_
        refine xw_ior (aX12_unsigned 12 rfl) ?_
        refine hw_ti (fun x35 => ?_)
        have b36 := i_rng x35
        refine hw_callV (Bs := [.int (x35)]) (rest := []) (aX12_unsigned 13 rfl) wc_RX12_496 (by decide) rfl wi_yX12_emit wv_yX12_emit (c121 hS) (s121 hS) rfl rfl rfl (Nat.le_of_ble_eq_true rfl) (Nat.le_of_ble_eq_true rfl) (n_emit (d := d) hS hF hI6 (x35) (by have := congrArg Int32.toInt (show FIv4 121 73 = x13 from h14); omega) (show rl_pm (FIv4 121 90) (FIv4 121 73) (FIv4 166) (FIv4 167) (FIv4 168) from rl7)) (fun v37 sv38 p39 => ?_)
        have := congrArg Int32.toInt (show FIv4 121 73 = x13 from h14)
        obtain ⟨rfl, FI41, rfl, hI42, f43, t44, rl45⟩ := p39
        obtain ⟨x46, h47⟩ : ∃ y, FI41 121 73 = y := ⟨_, rfl⟩
        have h47l := congrArg Int32.toInt h47
        have b48 := gI_121_73 hI42; rw [h47] at b48
        show hw sk base _ _ _ _ _ [] _ _
        refine xw_lloadn (aX12_unsigned 14 rfl) rfl ?_
        refine hw_bp (v := (7 : Int32)) (aX12_unsigned 15 rfl) (by decide) ?_
        refine xw_lshr (aX12_unsigned 16 rfl) ?_
        refine hw_tle (A := ((y3).toInt) / (128)) (l_shr7 rfl) (fun x49 e50 => ?_)
        refine xw_lstoren (L2 := [(3, .long (x49)), (0, .ref (base + 121))]) (aX12_unsigned 17 rfl) (by decide) rfl ?_
        refine xw_goto (tgt := 2) (aX12_unsigned 18 rfl) (by decide) ?_
        exact hw_L (ih (x49) FI41 (gf_tr ex_rf fr5 f43 rfl rfl rfl) hI42 (show rl_pm (FI41 121 90) (FI41 121 73) (FI41 166) (FI41 167) (FI41 168) from rl45) (by have := (e50 : (x49).toInt = ((y3).toInt) / (128)); omega) (by have := (e50 : (x49).toInt = ((y3).toInt) / (128)); have := congrArg Int32.toInt (show FI41 121 73 = x46 from h47); omega) (by have := (e50 : (x49).toInt = ((y3).toInt) / (128)); have := congrArg Int32.toInt (show FI41 121 73 = x46 from h47); omega) (by have := (e50 : (x49).toInt = ((y3).toInt) / (128)); have := congrArg Int32.toInt (show FI41 121 73 = x46 from h47); omega) (show (x49).toInt < p7 ((FI41 121 73).toInt - (FI 121 73).toInt) from (by have := (e50 : (x49).toInt = ((y3).toInt) / (128)); have := congrArg Int32.toInt (show FI41 121 73 = x46 from h47); exact (by have e1 := e50; rw [show ((FI41 121 73).toInt - (FI 121 73).toInt) = ((FIv4 121 73).toInt - (FI 121 73).toInt) + 1 by omega, e1]; exact p7_s xi2_0 (by omega) (by omega)))) (by have := (e50 : (x49).toInt = ((y3).toInt) / (128)); omega)) ⟨rfl, rfl, trivial⟩
  exact hw_L (lp12 (((a1).toInt : Int).toNat + 1) (a1) FI gf_rf hI (show rl_pm (FI 121 90) (FI 121 73) (FI 166) (FI 167) (FI 168) from rel_pm) (by omega) (by have := congrArg Int32.toInt (show FI 121 73 = x1 from h2); omega) (by have := congrArg Int32.toInt (show FI 121 73 = x1 from h2); omega) (by have := congrArg Int32.toInt (show FI 121 73 = x1 from h2); omega) (show (a1).toInt < p7 ((FI 121 73).toInt - (FI 121 73).toInt) from (by have := congrArg Int32.toInt (show FI 121 73 = x1 from h2); exact (by rw [show ((FI 121 73).toInt - (FI 121 73).toInt) = (0 : Int) by omega]; exact p7_0 (by omega)))) (by omega)) ⟨rfl, rfl, trivial⟩
def nX12_signed : Nat := 0xb1f001b6887ff30114212addffa7427b071021f001b680800011887ff30114212a19009e94fa0014210b009b94f5011421421f
theorem bX12_signed : cX12_signed.data.toList.map UInt8.toNat = x_un nX12_signed 51 := by decide +kernel
def iX12_signed : List (Nat × Jvm.ClassFile.Instr × Nat) := [(0, .lload_n 1, 1), (1, .lstore_n 3, 1), (2, .lload_n 3, 1), (3, .ldc2_w 501, 3), (6, .lcmp, 1), (7, .ifCond .lt 11, 3), (10, .lload_n 3, 1), (11, .ldc2_w 250, 3), (14, .lcmp, 1), (15, .ifCond .le 25, 3), (18, .aload_n 0, 1), (19, .lload_n 3, 1), (20, .ldc2_w 499, 3), (23, .land, 1), (24, .l2i, 1), (25, .sipush 128, 3), (28, .ior, 1), (29, .invokevirtual 496, 3), (32, .lload_n 3, 1), (33, .bipush 7, 2), (35, .lshr, 1), (36, .lstore_n 3, 1), (37, .goto (-35), 3), (40, .aload_n 0, 1), (41, .lload_n 3, 1), (42, .ldc2_w 499, 3), (45, .land, 1), (46, .l2i, 1), (47, .invokevirtual 496, 3), (50, .return_, 1)]
theorem dX12_signed : x_il nX12_signed 51 iX12_signed = true := by decide +kernel
theorem aX12_signed (k : Nat) {pc : Nat} {i : Jvm.ClassFile.Instr} {len : Nat} (hk : iX12_signed[k]? = some (pc, i, len)) : x_at xMM 222 pc i len yX12_signed 5 none := ⟨cX12_signed, rfl, x_il_ok bX12_signed dX12_signed k hk⟩
set_option maxHeartbeats 4000000 in
set_option maxRecDepth 100000 in
theorem n_signed {sk : xK} {base d n sl : Nat} {SH : Nat → Nat × Nat} {FI : Nat → Nat → Int32} {FL : Nat → Nat → Int64} {FR : Nat → Nat → Option Nat} (hS : h_S n SH) (hF : h_FR FR) (hI : g_I FI) (a1 : Int64) (g0 : (FI 121 73).toInt ≤ 29000) (rel_pm : rl_pm (FI 121 90) (FI 121 73) (FI 166) (FI 167) (FI 168)) : hw sk base (d + 1) none 222 0 [(0, .ref (base + 121)), (1, .long (a1))] [] (n, sl, SH, FI, FL, FR) (h_V (fun s => ∃ FI', s = (n, sl, SH, FI', FL, FR) ∧ g_I FI' ∧ g_fr n SH [(121, 73)] [154] [] FI FI' ∧ ((FI 121 73).toInt < (FI' 121 73).toInt) ∧ ((FI' 121 73).toInt ≤ (FI 121 73).toInt + 10) ∧ ((-64 ≤ (a1).toInt ∧ (a1).toInt ≤ 63) → (FI' 121 73).toInt ≤ (FI 121 73).toInt + 1) ∧ (rl_pm (FI' 121 90) (FI' 121 73) (FI' 166) (FI' 167) (FI' 168)))) := by
  have rg_a1 := l_rng a1
  obtain ⟨x1, h2⟩ : ∃ y, FI 121 73 = y := ⟨_, rfl⟩
  have h2l := congrArg Int32.toInt h2
  have b3 := gI_121_73 hI; rw [h2] at b3
  refine xw_lloadn (aX12_signed 0 rfl) rfl ?_
  refine xw_lstoren (L2 := [(3, .long (a1)), (0, .ref (base + 121)), (1, .long (a1))]) (aX12_signed 1 rfl) (by decide) rfl ?_
  have lp11 : ∀ (m : Nat) (y3 : Int64) (FIv4 : Nat → Nat → Int32), (g_fr n SH [(121, 73)] [154] [] FI FIv4) → (g_I FIv4) → (rl_pm (FIv4 121 90) (FIv4 121 73) (FIv4 166) (FIv4 167) (FIv4 168)) → ((FI 121 73).toInt ≤ (FIv4 121 73).toInt) → ((FIv4 121 73).toInt ≤ (FI 121 73).toInt + 9) → ((-64 ≤ (a1).toInt ∧ (a1).toInt ≤ 63) → ((FIv4 121 73).toInt = (FI 121 73).toInt ∧ (y3).toInt = (a1).toInt)) → ((y3).toInt < p7 ((FIv4 121 73).toInt - (FI 121 73).toInt)) → (-p7 ((FIv4 121 73).toInt - (FI 121 73).toInt) ≤ (y3).toInt) → 10 - ((FIv4 121 73).toInt - (FI 121 73).toInt) < m → hw sk base (d + 1) none 222 2 [(3, .long (y3)), (0, .ref (base + 121))] [] (n, sl, SH, FIv4, FL, FR) (h_V (fun s => ∃ FI', s = (n, sl, SH, FI', FL, FR) ∧ g_I FI' ∧ g_fr n SH [(121, 73)] [154] [] FI FI' ∧ ((FI 121 73).toInt < (FI' 121 73).toInt) ∧ ((FI' 121 73).toInt ≤ (FI 121 73).toInt + 10) ∧ ((-64 ≤ (a1).toInt ∧ (a1).toInt ≤ 63) → (FI' 121 73).toInt ≤ (FI 121 73).toInt + 1) ∧ (rl_pm (FI' 121 90) (FI' 121 73) (FI' 166) (FI' 167) (FI' 168)))) := by
    intro m
    induction m with
    | zero => intro y3 FIv4 fr5 hI6 rl7 iv8 iv9 iv10 xi2_0 xi2_1 hm; omega
    | succ m ih =>
      intro y3 FIv4 fr5 hI6 rl7 iv8 iv9 iv10 xi2_0 xi2_1 hm
      have rg_y3 := l_rng y3
      obtain ⟨x12, h13⟩ : ∃ y, FIv4 121 73 = y := ⟨_, rfl⟩
      have h13l := congrArg Int32.toInt h13
      have b14 := gI_121_73 hI6; rw [h13] at b14
      refine xw_lloadn (aX12_signed 2 rfl) rfl ?_
      refine xw_ldc2 (aX12_signed 3 rfl) wk_RX12_501 ?_
      have j53 : ((y3).toInt < -64 ∨ 63 < (y3).toInt) → hw sk base (d + 1) none 222 18 [(0, .ref (base + 121)), (3, .long (y3))] [] (n, sl, SH, FIv4, FL, FR) (h_V (fun s => ∃ FI', s = (n, sl, SH, FI', FL, FR) ∧ g_I FI' ∧ g_fr n SH [(121, 73)] [154] [] FI FI' ∧ ((FI 121 73).toInt < (FI' 121 73).toInt) ∧ ((FI' 121 73).toInt ≤ (FI 121 73).toInt + 10) ∧ ((-64 ≤ (a1).toInt ∧ (a1).toInt ≤ 63) → (FI' 121 73).toInt ≤ (FI 121 73).toInt + 1) ∧ (rl_pm (FI' 121 90) (FI' 121 73) (FI' 166) (FI' 167) (FI' 168)))) := by
        intro fc18_0
        have h9 : (((FIv4 121 73).toInt - (FI 121 73).toInt) : Int) < 9 := by rcases Int.lt_or_le ((FIv4 121 73).toInt - (FI 121 73).toInt) 9 with h | h; { exact h }; { have := p7_9 xi2_0 (by omega); have := p7_m9 xi2_1 (by omega); omega }
        refine hw_aloadn (aX12_signed 10 rfl) rfl ?_
        refine xw_lloadn (aX12_signed 11 rfl) rfl ?_
        refine xw_ldc2 (aX12_signed 12 rfl) wk_RX12_499 ?_
        refine xw_land (aX12_signed 13 rfl) ?_
        refine hw_tlb (lo := 0) (hi := 127) (l_and (x := y3) (m := (127 : Int64)) (M := 127) (by decide) (by decide)) (fun x54 b55 => ?_)
        refine xw_l2i (aX12_signed 14 rfl) ?_
        refine hw_tie (A := (x54).toInt) (l_2i rfl (by omega) (by omega)) (fun x56 e57 => ?_)
        refine hw_sp (v := (128 : Int32)) (aX12_signed 15 rfl) (by decide) ?_
        refine xw_ior (aX12_signed 16 rfl) ?_
        refine hw_ti (fun x58 => ?_)
        have b59 := i_rng x58
        refine hw_callV (Bs := [.int (x58)]) (rest := []) (aX12_signed 17 rfl) wc_RX12_496 (by decide) rfl wi_yX12_emit wv_yX12_emit (c121 hS) (s121 hS) rfl rfl rfl (Nat.le_of_ble_eq_true rfl) (Nat.le_of_ble_eq_true rfl) (n_emit (d := d) hS hF hI6 (x58) (by have := congrArg Int32.toInt (show FIv4 121 73 = x12 from h13); omega) (show rl_pm (FIv4 121 90) (FIv4 121 73) (FIv4 166) (FIv4 167) (FIv4 168) from rl7)) (fun v60 sv61 p62 => ?_)
        have := congrArg Int32.toInt (show FIv4 121 73 = x12 from h13)
        obtain ⟨rfl, FI64, rfl, hI65, f66, t67, rl68⟩ := p62
        obtain ⟨x69, h70⟩ : ∃ y, FI64 121 73 = y := ⟨_, rfl⟩
        have h70l := congrArg Int32.toInt h70
        have b71 := gI_121_73 hI65; rw [h70] at b71
        show hw sk base _ _ _ _ _ [] _ _
        refine xw_lloadn (aX12_signed 18 rfl) rfl ?_
        refine hw_bp (v := (7 : Int32)) (aX12_signed 19 rfl) (by decide) ?_
        refine xw_lshr (aX12_signed 20 rfl) ?_
        refine hw_tle (A := ((y3).toInt) / (128)) (l_shr7 rfl) (fun x72 e73 => ?_)
        refine xw_lstoren (L2 := [(3, .long (x72)), (0, .ref (base + 121))]) (aX12_signed 21 rfl) (by decide) rfl ?_
        refine xw_goto (tgt := 2) (aX12_signed 22 rfl) (by decide) ?_
        exact hw_L (ih (x72) FI64 (gf_tr ex_rf fr5 f66 rfl rfl rfl) hI65 (show rl_pm (FI64 121 90) (FI64 121 73) (FI64 166) (FI64 167) (FI64 168) from rl68) (by have := (e73 : (x72).toInt = ((y3).toInt) / (128)); have := congrArg Int32.toInt (show FI64 121 73 = x69 from h70); omega) (by have := (e73 : (x72).toInt = ((y3).toInt) / (128)); have := congrArg Int32.toInt (show FI64 121 73 = x69 from h70); omega) (by have := (e73 : (x72).toInt = ((y3).toInt) / (128)); have := congrArg Int32.toInt (show FI64 121 73 = x69 from h70); omega) (show (x72).toInt < p7 ((FI64 121 73).toInt - (FI 121 73).toInt) from (by have := (e73 : (x72).toInt = ((y3).toInt) / (128)); have := congrArg Int32.toInt (show FI64 121 73 = x69 from h70); exact (by have e1 := e73; rw [show ((FI64 121 73).toInt - (FI 121 73).toInt) = ((FIv4 121 73).toInt - (FI 121 73).toInt) + 1 by omega, e1]; exact p7_s xi2_0 (by omega) (by omega)))) (show -p7 ((FI64 121 73).toInt - (FI 121 73).toInt) ≤ (x72).toInt from (by have := (e73 : (x72).toInt = ((y3).toInt) / (128)); have := congrArg Int32.toInt (show FI64 121 73 = x69 from h70); exact (by have e1 := e73; rw [show ((FI64 121 73).toInt - (FI 121 73).toInt) = ((FIv4 121 73).toInt - (FI 121 73).toInt) + 1 by omega, e1]; exact p7_ms xi2_1 (by omega) (by omega)))) (by have := (e73 : (x72).toInt = ((y3).toInt) / (128)); have := congrArg Int32.toInt (show FI64 121 73 = x69 from h70); omega)) ⟨rfl, rfl, trivial⟩
      refine hw_lclt (tgt := 18) (aX12_signed 4 rfl) (aX12_signed 5 rfl) (by decide) rfl (by decide : ((-64) : Int64).toInt = (-64)) (fun cd74 => ?_) (fun cd74 => ?_)
      · exact hw_L (j53 (by show (y3).toInt < -64 ∨ 63 < (y3).toInt; omega)) ⟨rfl, rfl, trivial⟩
      · refine xw_lloadn (aX12_signed 6 rfl) rfl ?_
        refine xw_ldc2 (aX12_signed 7 rfl) wk_RX12_250 ?_
        refine hw_lcle (tgt := 40) (aX12_signed 8 rfl) (aX12_signed 9 rfl) (by decide) rfl (by decide : (63 : Int64).toInt = 63) (fun cd75 => ?_) (fun cd75 => ?_)
        · refine hw_aloadn (aX12_signed 23 rfl) rfl ?_
          refine xw_lloadn (aX12_signed 24 rfl) rfl ?_
          refine xw_ldc2 (aX12_signed 25 rfl) wk_RX12_499 ?_
          refine xw_land (aX12_signed 26 rfl) ?_
          refine hw_tlb (lo := 0) (hi := 127) (l_and (x := y3) (m := (127 : Int64)) (M := 127) (by decide) (by decide)) (fun x76 b77 => ?_)
          refine xw_l2i (aX12_signed 27 rfl) ?_
          refine hw_tie (A := (x76).toInt) (l_2i rfl (by omega) (by omega)) (fun x78 e79 => ?_)
          refine hw_callV (Bs := [.int (x78)]) (rest := []) (aX12_signed 28 rfl) wc_RX12_496 (by decide) rfl wi_yX12_emit wv_yX12_emit (c121 hS) (s121 hS) rfl rfl rfl (Nat.le_of_ble_eq_true rfl) (Nat.le_of_ble_eq_true rfl) (n_emit (d := d) hS hF hI6 (x78) (by have := congrArg Int32.toInt (show FIv4 121 73 = x12 from h13); omega) (show rl_pm (FIv4 121 90) (FIv4 121 73) (FIv4 166) (FIv4 167) (FIv4 168) from rl7)) (fun v80 sv81 p82 => ?_)
          have := congrArg Int32.toInt (show FIv4 121 73 = x12 from h13)
          obtain ⟨rfl, FI84, rfl, hI85, f86, t87, rl88⟩ := p82
          obtain ⟨x89, h90⟩ : ∃ y, FI84 121 73 = y := ⟨_, rfl⟩
          have h90l := congrArg Int32.toInt h90
          have b91 := gI_121_73 hI85; rw [h90] at b91
          show hw sk base _ _ _ _ _ [] _ _
          refine xw_vret (aX12_signed 29 rfl) rfl ?_
          exact ⟨rfl, FI84, rfl, hI85, (gf_tr ex_rf fr5 f86 rfl rfl rfl), (by have := congrArg Int32.toInt (show FI84 121 73 = x89 from h90); omega), (by have := congrArg Int32.toInt (show FI84 121 73 = x89 from h90); omega), (by have := congrArg Int32.toInt (show FI84 121 73 = x89 from h90); omega), (show rl_pm (FI84 121 90) (FI84 121 73) (FI84 166) (FI84 167) (FI84 168) from rl88)⟩
        · exact hw_L (j53 (by show (y3).toInt < -64 ∨ 63 < (y3).toInt; omega)) ⟨rfl, rfl, trivial⟩
  exact hw_L (lp11 ((10 - ((x1).toInt - (FI 121 73).toInt) : Int).toNat + 1) (a1) FI gf_rf hI (show rl_pm (FI 121 90) (FI 121 73) (FI 166) (FI 167) (FI 168) from rel_pm) (by have := congrArg Int32.toInt (show FI 121 73 = x1 from h2); omega) (by have := congrArg Int32.toInt (show FI 121 73 = x1 from h2); omega) (by have := congrArg Int32.toInt (show FI 121 73 = x1 from h2); omega) (show (a1).toInt < p7 ((FI 121 73).toInt - (FI 121 73).toInt) from (by have := congrArg Int32.toInt (show FI 121 73 = x1 from h2); exact (by rw [show ((FI 121 73).toInt - (FI 121 73).toInt) = (0 : Int) by omega]; exact p7_0 (by omega)))) (show -p7 ((FI 121 73).toInt - (FI 121 73).toInt) ≤ (a1).toInt from (by have := congrArg Int32.toInt (show FI 121 73 = x1 from h2); exact (by rw [show ((FI 121 73).toInt - (FI 121 73).toInt) = (0 : Int) by omega]; exact p7_m0 (by omega)))) (by have := congrArg Int32.toInt (show FI 121 73 = x1 from h2); omega)) ⟨rfl, rfl, trivial⟩
def nX12_push : Nat := 0xb1f901b608101f2af001b60e102a1000a7f901b6071f2af001b60c102a12009d94ff01141f2700a7f901b6051f2af001b60a102a12009d94fd01141f3e00a7f901b6041f2af001b608102a12009d94f701141f5500a7f001b660881f30102a0f009d943601141f
theorem bX12_push : cX12_push.data.toList.map UInt8.toNat = x_un nX12_push 103 := by decide +kernel
def iX12_push : List (Nat × Jvm.ClassFile.Instr × Nat) := [(0, .lload_n 1, 1), (1, .ldc2_w 310, 3), (4, .lcmp, 1), (5, .ifCond .gt 15, 3), (8, .aload_n 0, 1), (9, .bipush 48, 2), (11, .lload_n 1, 1), (12, .l2i, 1), (13, .iadd, 1), (14, .invokevirtual 496, 3), (17, .goto 85, 3), (20, .lload_n 1, 1), (21, .ldc2_w 503, 3), (24, .lcmp, 1), (25, .ifCond .gt 18, 3), (28, .aload_n 0, 1), (29, .bipush 8, 2), (31, .invokevirtual 496, 3), (34, .aload_n 0, 1), (35, .lload_n 1, 1), (36, .iconst 1, 1), (37, .invokevirtual 505, 3), (40, .goto 62, 3), (43, .lload_n 1, 1), (44, .ldc2_w 509, 3), (47, .lcmp, 1), (48, .ifCond .gt 18, 3), (51, .aload_n 0, 1), (52, .bipush 10, 2), (54, .invokevirtual 496, 3), (57, .aload_n 0, 1), (58, .lload_n 1, 1), (59, .iconst 2, 1), (60, .invokevirtual 505, 3), (63, .goto 39, 3), (66, .lload_n 1, 1), (67, .ldc2_w 511, 3), (70, .lcmp, 1), (71, .ifCond .gt 18, 3), (74, .aload_n 0, 1), (75, .bipush 12, 2), (77, .invokevirtual 496, 3), (80, .aload_n 0, 1), (81, .lload_n 1, 1), (82, .iconst 4, 1), (83, .invokevirtual 505, 3), (86, .goto 16, 3), (89, .aload_n 0, 1), (90, .bipush 14, 2), (92, .invokevirtual 496, 3), (95, .aload_n 0, 1), (96, .lload_n 1, 1), (97, .bipush 8, 2), (99, .invokevirtual 505, 3), (102, .return_, 1)]
theorem dX12_push : x_il nX12_push 103 iX12_push = true := by decide +kernel
theorem aX12_push (k : Nat) {pc : Nat} {i : Jvm.ClassFile.Instr} {len : Nat} (hk : iX12_push[k]? = some (pc, i, len)) : x_at xMM 223 pc i len yX12_push 3 none := ⟨cX12_push, rfl, x_il_ok bX12_push dX12_push k hk⟩
set_option maxHeartbeats 4000000 in
set_option maxRecDepth 100000 in
theorem n_push {sk : xK} {base d n sl : Nat} {SH : Nat → Nat × Nat} {FI : Nat → Nat → Int32} {FL : Nat → Nat → Int64} {FR : Nat → Nat → Option Nat} (hS : h_S n SH) (hF : h_FR FR) (hI : g_I FI) (a1 : Int64) (g0 : (FI 121 73).toInt ≤ 29000) (rel_pm : rl_pm (FI 121 90) (FI 121 73) (FI 166) (FI 167) (FI 168)) : hw sk base (d + 2) none 223 0 [(0, .ref (base + 121)), (1, .long (a1))] [] (n, sl, SH, FI, FL, FR) (h_V (fun s => ∃ FI', s = (n, sl, SH, FI', FL, FR) ∧ g_I FI' ∧ g_fr n SH [(121, 73)] [154] [] FI FI' ∧ ((FI 121 73).toInt < (FI' 121 73).toInt) ∧ ((FI' 121 73).toInt ≤ (FI 121 73).toInt + 9) ∧ ((a1).toInt ≤ 65535 → (FI' 121 73).toInt ≤ (FI 121 73).toInt + 3) ∧ (rl_pm (FI' 121 90) (FI' 121 73) (FI' 166) (FI' 167) (FI' 168)))) := by
  have rg_a1 := l_rng a1
  obtain ⟨x1, h2⟩ : ∃ y, FI 121 73 = y := ⟨_, rfl⟩
  have h2l := congrArg Int32.toInt h2
  have b3 := gI_121_73 hI; rw [h2] at b3
  refine xw_lloadn (aX12_push 0 rfl) rfl ?_
  refine xw_ldc2 (aX12_push 1 rfl) wk_RX12_310 ?_
  refine hw_lcgt (tgt := 20) (aX12_push 2 rfl) (aX12_push 3 rfl) (by decide) rfl (by decide : (31 : Int64).toInt = 31) (fun cd4 => ?_) (fun cd4 => ?_)
  · refine xw_lloadn (aX12_push 11 rfl) rfl ?_
    refine xw_ldc2 (aX12_push 12 rfl) wk_RX12_503 ?_
    refine hw_lcgt (tgt := 43) (aX12_push 13 rfl) (aX12_push 14 rfl) (by decide) rfl (by decide : (255 : Int64).toInt = 255) (fun cd5 => ?_) (fun cd5 => ?_)
    · refine xw_lloadn (aX12_push 23 rfl) rfl ?_
      refine xw_ldc2 (aX12_push 24 rfl) wk_RX12_509 ?_
      refine hw_lcgt (tgt := 66) (aX12_push 25 rfl) (aX12_push 26 rfl) (by decide) rfl (by decide : (65535 : Int64).toInt = 65535) (fun cd6 => ?_) (fun cd6 => ?_)
      · refine xw_lloadn (aX12_push 35 rfl) rfl ?_
        refine xw_ldc2 (aX12_push 36 rfl) wk_RX12_511 ?_
        refine hw_lcgt (tgt := 89) (aX12_push 37 rfl) (aX12_push 38 rfl) (by decide) rfl (by decide : (4294967295 : Int64).toInt = 4294967295) (fun cd7 => ?_) (fun cd7 => ?_)
        · refine hw_aloadn (aX12_push 47 rfl) rfl ?_
          refine hw_bp (v := (14 : Int32)) (aX12_push 48 rfl) (by decide) ?_
          refine hw_callV (Bs := [.int ((14 : Int32))]) (rest := []) (aX12_push 49 rfl) wc_RX12_496 (by decide) rfl wi_yX12_emit wv_yX12_emit (c121 hS) (s121 hS) rfl rfl rfl (Nat.le_of_ble_eq_true rfl) (Nat.le_of_ble_eq_true rfl) (n_emit (d := d + 1) hS hF hI ((14 : Int32)) (by have := congrArg Int32.toInt (show FI 121 73 = x1 from h2); omega) (show rl_pm (FI 121 90) (FI 121 73) (FI 166) (FI 167) (FI 168) from rel_pm)) (fun v8 sv9 p10 => ?_)
          have := congrArg Int32.toInt (show FI 121 73 = x1 from h2)
          obtain ⟨rfl, FI12, rfl, hI13, f14, t15, rl16⟩ := p10
          obtain ⟨x17, h18⟩ : ∃ y, FI12 121 73 = y := ⟨_, rfl⟩
          have h18l := congrArg Int32.toInt h18
          have b19 := gI_121_73 hI13; rw [h18] at b19
          show hw sk base _ _ _ _ _ [] _ _
          refine hw_aloadn (aX12_push 50 rfl) rfl ?_
          refine xw_lloadn (aX12_push 51 rfl) rfl ?_
          refine hw_bp (v := (8 : Int32)) (aX12_push 52 rfl) (by decide) ?_
          refine hw_callV (Bs := [.long (a1), .int ((8 : Int32))]) (rest := []) (aX12_push 53 rfl) wc_RX12_505 (by decide) rfl wi_yX12_emits wv_yX12_emits (c121 hS) (s121 hS) rfl rfl rfl (Nat.le_of_ble_eq_true rfl) (Nat.le_of_ble_eq_true rfl) (n_emits (d := d) hS hF hI13 (a1) ((8 : Int32)) (by have := congrArg Int32.toInt (show FI12 121 73 = x17 from h18); omega) (by have := ((by decide : (8 : Int32).toInt = 8) : ((8 : Int32)).toInt = 8); have := ((by decide : (8 : Int32).toInt = 8) : ((8 : Int32)).toInt = 8); omega) (show rl_pm (FI12 121 90) (FI12 121 73) (FI12 166) (FI12 167) (FI12 168) from rl16)) (fun v20 sv21 p22 => ?_)
          have := congrArg Int32.toInt (show FI12 121 73 = x17 from h18)
          have := ((by decide : (8 : Int32).toInt = 8) : ((8 : Int32)).toInt = 8)
          obtain ⟨rfl, FI24, rfl, hI25, f26, t27, rl28⟩ := p22
          obtain ⟨x29, h30⟩ : ∃ y, FI24 121 73 = y := ⟨_, rfl⟩
          have h30l := congrArg Int32.toInt h30
          have b31 := gI_121_73 hI25; rw [h30] at b31
          show hw sk base _ _ _ _ _ [] _ _
          refine xw_vret (aX12_push 54 rfl) rfl ?_
          exact ⟨rfl, FI24, rfl, hI25, (gf_tr ex_rf (gf_tr ex_rf gf_rf f14 rfl rfl rfl) f26 rfl rfl rfl), (by have := congrArg Int32.toInt (show FI24 121 73 = x29 from h30); omega), (by have := congrArg Int32.toInt (show FI24 121 73 = x29 from h30); omega), (by have := congrArg Int32.toInt (show FI24 121 73 = x29 from h30); omega), (show rl_pm (FI24 121 90) (FI24 121 73) (FI24 166) (FI24 167) (FI24 168) from rl28)⟩
        · refine hw_aloadn (aX12_push 39 rfl) rfl ?_
          refine hw_bp (v := (12 : Int32)) (aX12_push 40 rfl) (by decide) ?_
          refine hw_callV (Bs := [.int ((12 : Int32))]) (rest := []) (aX12_push 41 rfl) wc_RX12_496 (by decide) rfl wi_yX12_emit wv_yX12_emit (c121 hS) (s121 hS) rfl rfl rfl (Nat.le_of_ble_eq_true rfl) (Nat.le_of_ble_eq_true rfl) (n_emit (d := d + 1) hS hF hI ((12 : Int32)) (by have := congrArg Int32.toInt (show FI 121 73 = x1 from h2); omega) (show rl_pm (FI 121 90) (FI 121 73) (FI 166) (FI 167) (FI 168) from rel_pm)) (fun v32 sv33 p34 => ?_)
          have := congrArg Int32.toInt (show FI 121 73 = x1 from h2)
          obtain ⟨rfl, FI36, rfl, hI37, f38, t39, rl40⟩ := p34
          obtain ⟨x41, h42⟩ : ∃ y, FI36 121 73 = y := ⟨_, rfl⟩
          have h42l := congrArg Int32.toInt h42
          have b43 := gI_121_73 hI37; rw [h42] at b43
          show hw sk base _ _ _ _ _ [] _ _
          refine hw_aloadn (aX12_push 42 rfl) rfl ?_
          refine xw_lloadn (aX12_push 43 rfl) rfl ?_
          refine hw_ic (v := (4 : Int32)) (aX12_push 44 rfl) (by decide) ?_
          refine hw_callV (Bs := [.long (a1), .int ((4 : Int32))]) (rest := []) (aX12_push 45 rfl) wc_RX12_505 (by decide) rfl wi_yX12_emits wv_yX12_emits (c121 hS) (s121 hS) rfl rfl rfl (Nat.le_of_ble_eq_true rfl) (Nat.le_of_ble_eq_true rfl) (n_emits (d := d) hS hF hI37 (a1) ((4 : Int32)) (by have := congrArg Int32.toInt (show FI36 121 73 = x41 from h42); omega) (by have := ((by decide : (4 : Int32).toInt = 4) : ((4 : Int32)).toInt = 4); have := ((by decide : (4 : Int32).toInt = 4) : ((4 : Int32)).toInt = 4); omega) (show rl_pm (FI36 121 90) (FI36 121 73) (FI36 166) (FI36 167) (FI36 168) from rl40)) (fun v44 sv45 p46 => ?_)
          have := congrArg Int32.toInt (show FI36 121 73 = x41 from h42)
          have := ((by decide : (4 : Int32).toInt = 4) : ((4 : Int32)).toInt = 4)
          obtain ⟨rfl, FI48, rfl, hI49, f50, t51, rl52⟩ := p46
          obtain ⟨x53, h54⟩ : ∃ y, FI48 121 73 = y := ⟨_, rfl⟩
          have h54l := congrArg Int32.toInt h54
          have b55 := gI_121_73 hI49; rw [h54] at b55
          show hw sk base _ _ _ _ _ [] _ _
          refine xw_goto (tgt := 102) (aX12_push 46 rfl) (by decide) ?_
          refine xw_vret (aX12_push 54 rfl) rfl ?_
          exact ⟨rfl, FI48, rfl, hI49, (gf_tr ex_rf (gf_tr ex_rf gf_rf f38 rfl rfl rfl) f50 rfl rfl rfl), (by have := congrArg Int32.toInt (show FI48 121 73 = x53 from h54); omega), (by have := congrArg Int32.toInt (show FI48 121 73 = x53 from h54); omega), (by have := congrArg Int32.toInt (show FI48 121 73 = x53 from h54); omega), (show rl_pm (FI48 121 90) (FI48 121 73) (FI48 166) (FI48 167) (FI48 168) from rl52)⟩
      · refine hw_aloadn (aX12_push 27 rfl) rfl ?_
        refine hw_bp (v := (10 : Int32)) (aX12_push 28 rfl) (by decide) ?_
        refine hw_callV (Bs := [.int ((10 : Int32))]) (rest := []) (aX12_push 29 rfl) wc_RX12_496 (by decide) rfl wi_yX12_emit wv_yX12_emit (c121 hS) (s121 hS) rfl rfl rfl (Nat.le_of_ble_eq_true rfl) (Nat.le_of_ble_eq_true rfl) (n_emit (d := d + 1) hS hF hI ((10 : Int32)) (by have := congrArg Int32.toInt (show FI 121 73 = x1 from h2); omega) (show rl_pm (FI 121 90) (FI 121 73) (FI 166) (FI 167) (FI 168) from rel_pm)) (fun v56 sv57 p58 => ?_)
        have := congrArg Int32.toInt (show FI 121 73 = x1 from h2)
        obtain ⟨rfl, FI60, rfl, hI61, f62, t63, rl64⟩ := p58
        obtain ⟨x65, h66⟩ : ∃ y, FI60 121 73 = y := ⟨_, rfl⟩
        have h66l := congrArg Int32.toInt h66
        have b67 := gI_121_73 hI61; rw [h66] at b67
        show hw sk base _ _ _ _ _ [] _ _
        refine hw_aloadn (aX12_push 30 rfl) rfl ?_
        refine xw_lloadn (aX12_push 31 rfl) rfl ?_
        refine hw_ic (v := (2 : Int32)) (aX12_push 32 rfl) (by decide) ?_
        refine hw_callV (Bs := [.long (a1), .int ((2 : Int32))]) (rest := []) (aX12_push 33 rfl) wc_RX12_505 (by decide) rfl wi_yX12_emits wv_yX12_emits (c121 hS) (s121 hS) rfl rfl rfl (Nat.le_of_ble_eq_true rfl) (Nat.le_of_ble_eq_true rfl) (n_emits (d := d) hS hF hI61 (a1) ((2 : Int32)) (by have := congrArg Int32.toInt (show FI60 121 73 = x65 from h66); omega) (by have := ((by decide : (2 : Int32).toInt = 2) : ((2 : Int32)).toInt = 2); have := ((by decide : (2 : Int32).toInt = 2) : ((2 : Int32)).toInt = 2); omega) (show rl_pm (FI60 121 90) (FI60 121 73) (FI60 166) (FI60 167) (FI60 168) from rl64)) (fun v68 sv69 p70 => ?_)
        have := congrArg Int32.toInt (show FI60 121 73 = x65 from h66)
        have := ((by decide : (2 : Int32).toInt = 2) : ((2 : Int32)).toInt = 2)
        obtain ⟨rfl, FI72, rfl, hI73, f74, t75, rl76⟩ := p70
        obtain ⟨x77, h78⟩ : ∃ y, FI72 121 73 = y := ⟨_, rfl⟩
        have h78l := congrArg Int32.toInt h78
        have b79 := gI_121_73 hI73; rw [h78] at b79
        show hw sk base _ _ _ _ _ [] _ _
        refine xw_goto (tgt := 102) (aX12_push 34 rfl) (by decide) ?_
        refine xw_vret (aX12_push 54 rfl) rfl ?_
        exact ⟨rfl, FI72, rfl, hI73, (gf_tr ex_rf (gf_tr ex_rf gf_rf f62 rfl rfl rfl) f74 rfl rfl rfl), (by have := congrArg Int32.toInt (show FI72 121 73 = x77 from h78); omega), (by have := congrArg Int32.toInt (show FI72 121 73 = x77 from h78); omega), (by have := congrArg Int32.toInt (show FI72 121 73 = x77 from h78); omega), (show rl_pm (FI72 121 90) (FI72 121 73) (FI72 166) (FI72 167) (FI72 168) from rl76)⟩
    · refine hw_aloadn (aX12_push 15 rfl) rfl ?_
      refine hw_bp (v := (8 : Int32)) (aX12_push 16 rfl) (by decide) ?_
      refine hw_callV (Bs := [.int ((8 : Int32))]) (rest := []) (aX12_push 17 rfl) wc_RX12_496 (by decide) rfl wi_yX12_emit wv_yX12_emit (c121 hS) (s121 hS) rfl rfl rfl (Nat.le_of_ble_eq_true rfl) (Nat.le_of_ble_eq_true rfl) (n_emit (d := d + 1) hS hF hI ((8 : Int32)) (by have := congrArg Int32.toInt (show FI 121 73 = x1 from h2); omega) (show rl_pm (FI 121 90) (FI 121 73) (FI 166) (FI 167) (FI 168) from rel_pm)) (fun v80 sv81 p82 => ?_)
      have := congrArg Int32.toInt (show FI 121 73 = x1 from h2)
      obtain ⟨rfl, FI84, rfl, hI85, f86, t87, rl88⟩ := p82
      obtain ⟨x89, h90⟩ : ∃ y, FI84 121 73 = y := ⟨_, rfl⟩
      have h90l := congrArg Int32.toInt h90
      have b91 := gI_121_73 hI85; rw [h90] at b91
      show hw sk base _ _ _ _ _ [] _ _
      refine hw_aloadn (aX12_push 18 rfl) rfl ?_
      refine xw_lloadn (aX12_push 19 rfl) rfl ?_
      refine hw_ic (v := (1 : Int32)) (aX12_push 20 rfl) (by decide) ?_
      refine hw_callV (Bs := [.long (a1), .int ((1 : Int32))]) (rest := []) (aX12_push 21 rfl) wc_RX12_505 (by decide) rfl wi_yX12_emits wv_yX12_emits (c121 hS) (s121 hS) rfl rfl rfl (Nat.le_of_ble_eq_true rfl) (Nat.le_of_ble_eq_true rfl) (n_emits (d := d) hS hF hI85 (a1) ((1 : Int32)) (by have := congrArg Int32.toInt (show FI84 121 73 = x89 from h90); omega) (by have := ((by decide : (1 : Int32).toInt = 1) : ((1 : Int32)).toInt = 1); have := ((by decide : (1 : Int32).toInt = 1) : ((1 : Int32)).toInt = 1); omega) (show rl_pm (FI84 121 90) (FI84 121 73) (FI84 166) (FI84 167) (FI84 168) from rl88)) (fun v92 sv93 p94 => ?_)
      have := congrArg Int32.toInt (show FI84 121 73 = x89 from h90)
      have := ((by decide : (1 : Int32).toInt = 1) : ((1 : Int32)).toInt = 1)
      obtain ⟨rfl, FI96, rfl, hI97, f98, t99, rl100⟩ := p94
      obtain ⟨x101, h102⟩ : ∃ y, FI96 121 73 = y := ⟨_, rfl⟩
      have h102l := congrArg Int32.toInt h102
      have b103 := gI_121_73 hI97; rw [h102] at b103
      show hw sk base _ _ _ _ _ [] _ _
      refine xw_goto (tgt := 102) (aX12_push 22 rfl) (by decide) ?_
      refine xw_vret (aX12_push 54 rfl) rfl ?_
      exact ⟨rfl, FI96, rfl, hI97, (gf_tr ex_rf (gf_tr ex_rf gf_rf f86 rfl rfl rfl) f98 rfl rfl rfl), (by have := congrArg Int32.toInt (show FI96 121 73 = x101 from h102); omega), (by have := congrArg Int32.toInt (show FI96 121 73 = x101 from h102); omega), (by have := congrArg Int32.toInt (show FI96 121 73 = x101 from h102); omega), (show rl_pm (FI96 121 90) (FI96 121 73) (FI96 166) (FI96 167) (FI96 168) from rl100)⟩
  · refine hw_aloadn (aX12_push 4 rfl) rfl ?_
    refine hw_bp (v := (48 : Int32)) (aX12_push 5 rfl) (by decide) ?_
    refine xw_lloadn (aX12_push 6 rfl) rfl ?_
    refine xw_l2i (aX12_push 7 rfl) ?_
    refine hw_ti (fun x104 => ?_)
    have b105 := i_rng x104
    refine xw_iadd (aX12_push 8 rfl) ?_
    refine hw_ti (fun x106 => ?_)
    have b107 := i_rng x106
    refine hw_callV (Bs := [.int (x106)]) (rest := []) (aX12_push 9 rfl) wc_RX12_496 (by decide) rfl wi_yX12_emit wv_yX12_emit (c121 hS) (s121 hS) rfl rfl rfl (Nat.le_of_ble_eq_true rfl) (Nat.le_of_ble_eq_true rfl) (n_emit (d := d + 1) hS hF hI (x106) (by have := congrArg Int32.toInt (show FI 121 73 = x1 from h2); omega) (show rl_pm (FI 121 90) (FI 121 73) (FI 166) (FI 167) (FI 168) from rel_pm)) (fun v108 sv109 p110 => ?_)
    have := congrArg Int32.toInt (show FI 121 73 = x1 from h2)
    obtain ⟨rfl, FI112, rfl, hI113, f114, t115, rl116⟩ := p110
    obtain ⟨x117, h118⟩ : ∃ y, FI112 121 73 = y := ⟨_, rfl⟩
    have h118l := congrArg Int32.toInt h118
    have b119 := gI_121_73 hI113; rw [h118] at b119
    show hw sk base _ _ _ _ _ [] _ _
    refine xw_goto (tgt := 102) (aX12_push 10 rfl) (by decide) ?_
    refine xw_vret (aX12_push 54 rfl) rfl ?_
    exact ⟨rfl, FI112, rfl, hI113, (gf_tr ex_rf gf_rf f114 rfl rfl rfl), (by have := congrArg Int32.toInt (show FI112 121 73 = x117 from h118); omega), (by have := congrArg Int32.toInt (show FI112 121 73 = x117 from h118); omega), (by have := congrArg Int32.toInt (show FI112 121 73 = x117 from h118); omega), (show rl_pm (FI112 121 90) (FI112 121 73) (FI112 166) (FI112 167) (FI112 168) from rl116)⟩
def nX12_fail : Nat := 0xb1e101b52ede01b42a6f00b42a2adb01b51b2ab1040099db01b42a
theorem bX12_fail : cX12_fail.data.toList.map UInt8.toNat = x_un nX12_fail 27 := by decide +kernel
def iX12_fail : List (Nat × Jvm.ClassFile.Instr × Nat) := [(0, .aload_n 0, 1), (1, .getfield 475, 3), (4, .ifCond .eq 4, 3), (7, .return_, 1), (8, .aload_n 0, 1), (9, .iload_n 1, 1), (10, .putfield 475, 3), (13, .aload_n 0, 1), (14, .aload_n 0, 1), (15, .getfield 111, 3), (18, .aload_n 0, 1), (19, .getfield 478, 3), (22, .iaload, 1), (23, .putfield 481, 3), (26, .return_, 1)]
theorem dX12_fail : x_il nX12_fail 27 iX12_fail = true := by decide +kernel
theorem aX12_fail (k : Nat) {pc : Nat} {i : Jvm.ClassFile.Instr} {len : Nat} (hk : iX12_fail[k]? = some (pc, i, len)) : x_at xMM 214 pc i len yX12_fail 2 none := ⟨cX12_fail, rfl, x_il_ok bX12_fail dX12_fail k hk⟩
set_option maxHeartbeats 4000000 in
set_option maxRecDepth 100000 in
theorem n_fail {sk : xK} {base d n sl : Nat} {SH : Nat → Nat × Nat} {FI : Nat → Nat → Int32} {FL : Nat → Nat → Int64} {FR : Nat → Nat → Option Nat} (hS : h_S n SH) (hF : h_FR FR) (hI : g_I FI) (a1 : Int32) (g0 : (a1).toInt ≠ 0) : hw sk base d none 214 0 [(0, .ref (base + 121)), (1, .int (a1))] [] (n, sl, SH, FI, FL, FR) (h_V (fun s => ∃ FI', s = (n, sl, SH, FI', FL, FR) ∧ g_I FI' ∧ g_fr n SH [(121, 69), (121, 70)] [] [] FI FI' ∧ ((FI' 121 69).toInt ≠ 0))) := by
  have rg_a1 := i_rng a1
  obtain ⟨x1, h2⟩ : ∃ y, FI 121 69 = y := ⟨_, rfl⟩
  have h2l := congrArg Int32.toInt h2
  have := i_rng x1
  refine hw_aloadn (aX12_fail 0 rfl) rfl ?_
  refine hw_get (v := .int (x1)) (aX12_fail 1 rfl) wf_RX12_475 (c121 hS) (s121 hS) (by decide) (congrArg Value.int (show FI 121 69 = x1 from h2)) ?_
  refine hw_ifeq (tgt := 8) (aX12_fail 2 rfl) (by decide) rfl (fun cd3 => ?_) (fun cd3 => ?_)
  · refine hw_aloadn (aX12_fail 4 rfl) rfl ?_
    refine xw_iloadn (aX12_fail 5 rfl) rfl ?_
    refine hv_puti (aX12_fail 6 rfl) wf_RX12_475 (c121 hS) (s121 hS) (by decide) rfl rfl (fun FI4 u5 => ?_)
    have hI6 : g_I FI4 := gU_F hI u5 rfl
    refine hw_aloadn (aX12_fail 7 rfl) rfl ?_
    refine hw_aloadn (aX12_fail 8 rfl) rfl ?_
    refine hw_get (v := .ref (base + 151)) (aX12_fail 9 rfl) wf_RX12_111 (c121 hS) (s121 hS) (by decide) (congrArg (fun r => va_rf (h_rf base r)) (r121_64 hF)) ?_
    refine hw_aloadn (aX12_fail 10 rfl) rfl ?_
    obtain ⟨x7, h8⟩ : ∃ y, FI4 121 68 = y := ⟨_, rfl⟩
    have h8l := congrArg Int32.toInt h8
    have b9 := gI_121_68 hI6; rw [h8] at b9
    refine hw_get (v := .int (x7)) (aX12_fail 11 rfl) wf_RX12_478 (c121 hS) (s121 hS) (by decide) (congrArg Value.int (show FI4 121 68 = x7 from h8)) ?_
    obtain ⟨x10, h11⟩ : ∃ y, FI4 151 (x7).toNatClampNeg = y := ⟨_, rfl⟩
    have h11l := congrArg Int32.toInt h11
    have := i_rng x10
    refine hw_iald (v := x10) (aX12_fail 12 rfl) (c151 hS) (s151 hS) (h_in rfl (by omega) (by omega)) (show FI4 151 (x7).toNatClampNeg = x10 from h11) ?_
    refine hv_puti (aX12_fail 13 rfl) wf_RX12_481 (c121 hS) (s121 hS) (by decide) rfl rfl (fun FI12 u13 => ?_)
    have hI14 : g_I FI12 := gU_F hI6 u13 rfl
    refine xw_vret (aX12_fail 14 rfl) rfl ?_
    exact ⟨rfl, FI12, rfl, hI14, (gf_f (gf_f gf_rf u5 (by decide)) u13 (by decide)), (by have := congrArg Int32.toInt (show FI12 121 69 = a1 from (up_k u13 (by decide) (up_eq u5))); omega)⟩
  · refine xw_vret (aX12_fail 3 rfl) rfl ?_
    exact ⟨rfl, FI, rfl, hI, gf_rf, (by have := congrArg Int32.toInt (show FI 121 69 = x1 from h2); omega)⟩
def nX12_isSign : Nat := 0xac030400a70407009a94851b2fde01b42a6c00b42a1600a0082ede01b42a6900b42a
theorem bX12_isSign : cX12_isSign.data.toList.map UInt8.toNat = x_un nX12_isSign 34 := by decide +kernel
def iX12_isSign : List (Nat × Jvm.ClassFile.Instr × Nat) := [(0, .aload_n 0, 1), (1, .getfield 105, 3), (4, .aload_n 0, 1), (5, .getfield 478, 3), (8, .iaload, 1), (9, .iconst 5, 1), (10, .if_icmp .ne 22, 3), (13, .aload_n 0, 1), (14, .getfield 108, 3), (17, .aload_n 0, 1), (18, .getfield 478, 3), (21, .laload, 1), (22, .iload_n 1, 1), (23, .i2l, 1), (24, .lcmp, 1), (25, .ifCond .ne 7, 3), (28, .iconst 1, 1), (29, .goto 4, 3), (32, .iconst 0, 1), (33, .ireturn, 1)]
theorem dX12_isSign : x_il nX12_isSign 34 iX12_isSign = true := by decide +kernel
theorem aX12_isSign (k : Nat) {pc : Nat} {i : Jvm.ClassFile.Instr} {len : Nat} (hk : iX12_isSign[k]? = some (pc, i, len)) : x_at xMM 215 pc i len yX12_isSign 2 (some .boolean) := ⟨cX12_isSign, rfl, x_il_ok bX12_isSign dX12_isSign k hk⟩
set_option maxHeartbeats 4000000 in
set_option maxRecDepth 100000 in
theorem n_isSign {sk : xK} {base d n sl : Nat} {SH : Nat → Nat × Nat} {FI : Nat → Nat → Int32} {FL : Nat → Nat → Int64} {FR : Nat → Nat → Option Nat} (hS : h_S n SH) (hF : h_FR FR) (hI : g_I FI) (a1 : Int32) (g0 : (FI 121 68).toInt ≤ (FI 121 67).toInt - 1) (rel_tend : rl_e (FI 149) (FI 121 67)) : hw sk base d none 215 0 [(0, .ref (base + 121)), (1, .int (a1))] [] (n, sl, SH, FI, FL, FR) (h_I (fun r s => s = (n, sl, SH, FI, FL, FR) ∧ (r.toInt = 1 → (FI 121 68).toInt < (FI 121 67).toInt - 1) ∧ (0 ≤ r.toInt ∧ r.toInt ≤ 1) ∧ ((r.toInt = 1 ↔ (kf (FI 149) (FI 121 68).toInt.toNat = 5 ∧ wf (FL 150) (FI 121 68).toInt.toNat = (a1).toInt))))) := by
  have rg_a1 := i_rng a1
  obtain ⟨x1, h2⟩ : ∃ y, FI 121 68 = y := ⟨_, rfl⟩
  have h2l := congrArg Int32.toInt h2
  have b3 := gI_121_68 hI; rw [h2] at b3
  obtain ⟨x4, h5⟩ : ∃ y, FI 121 67 = y := ⟨_, rfl⟩
  have h5l := congrArg Int32.toInt h5
  have b6 := gI_121_67 hI; rw [h5] at b6
  refine hw_aloadn (aX12_isSign 0 rfl) rfl ?_
  refine hw_get (v := .ref (base + 149)) (aX12_isSign 1 rfl) wf_RX12_105 (c121 hS) (s121 hS) (by decide) (congrArg (fun r => va_rf (h_rf base r)) (r121_62 hF)) ?_
  refine hw_aloadn (aX12_isSign 2 rfl) rfl ?_
  refine hw_get (v := .int (x1)) (aX12_isSign 3 rfl) wf_RX12_478 (c121 hS) (s121 hS) (by decide) (congrArg Value.int (show FI 121 68 = x1 from h2)) ?_
  obtain ⟨x7, h8⟩ : ∃ y, FI 149 (x1).toNatClampNeg = y := ⟨_, rfl⟩
  have h8l := congrArg Int32.toInt h8
  have := i_rng x7
  refine hw_iald (v := x7) (aX12_isSign 4 rfl) (c149 hS) (s149 hS) (h_in rfl (by omega) (by omega)) (show FI 149 (x1).toNatClampNeg = x7 from h8) ?_
  refine hw_ic (v := (5 : Int32)) (aX12_isSign 5 rfl) (by decide) ?_
  refine hw_icne (tgt := 32) (aX12_isSign 6 rfl) (by decide) rfl (by decide : (5 : Int32).toInt = 5) (fun cd9 => ?_) (fun cd9 => ?_)
  · refine hw_ic (v := (0 : Int32)) (aX12_isSign 18 rfl) (by decide) ?_
    refine xw_iret (aX12_isSign 19 rfl) rfl (by decide) ?_
    have e10 : ((0 : Int32)).toInt = 0 := (by decide : (0 : Int32).toInt = 0)
    exact ⟨(0 : Int32), rfl, rfl, (by have : ((0 : Int32)).toInt = 0 := (by decide); omega), (by have : ((0 : Int32)).toInt = 0 := (by decide); omega), (by have e : (FI 121 68).toInt.toNat = (x1).toNatClampNeg := (i_cl (congrArg Int32.toInt (h2)).symm).symm; unfold kf wf; rw [e]; have := congrArg Int32.toInt (h8); have hz : (((0 : Int32))).toInt = 0 := (by decide : (0 : Int32).toInt = 0); omega)⟩
  · have hne := rl_e_ne rel_tend (t := x1) (by omega)
    refine hw_aloadn (aX12_isSign 7 rfl) rfl ?_
    refine hw_get (v := .ref (base + 150)) (aX12_isSign 8 rfl) wf_RX12_108 (c121 hS) (s121 hS) (by decide) (congrArg (fun r => va_rf (h_rf base r)) (r121_63 hF)) ?_
    refine hw_aloadn (aX12_isSign 9 rfl) rfl ?_
    refine hw_get (v := .int (x1)) (aX12_isSign 10 rfl) wf_RX12_478 (c121 hS) (s121 hS) (by decide) (congrArg Value.int (show FI 121 68 = x1 from h2)) ?_
    obtain ⟨x11, h12⟩ : ∃ y, FL 150 (x1).toNatClampNeg = y := ⟨_, rfl⟩
    have h12l := congrArg Int64.toInt h12
    have := l_rng x11
    refine hw_lald (v := x11) (aX12_isSign 11 rfl) (c150 hS) (s150 hS) (h_in rfl (by omega) (by omega)) (show FL 150 (x1).toNatClampNeg = x11 from h12) ?_
    refine xw_iloadn (aX12_isSign 12 rfl) rfl ?_
    refine xw_i2l (aX12_isSign 13 rfl) ?_
    refine hw_tle (A := (a1).toInt) (i_2l rfl) (fun x13 e14 => ?_)
    refine hw_lcne (tgt := 32) (aX12_isSign 14 rfl) (aX12_isSign 15 rfl) (by decide) rfl e14 (fun cd15 => ?_) (fun cd15 => ?_)
    · refine hw_ic (v := (0 : Int32)) (aX12_isSign 18 rfl) (by decide) ?_
      refine xw_iret (aX12_isSign 19 rfl) rfl (by decide) ?_
      have e16 : ((0 : Int32)).toInt = 0 := (by decide : (0 : Int32).toInt = 0)
      exact ⟨(0 : Int32), rfl, rfl, (by have : ((0 : Int32)).toInt = 0 := (by decide); omega), (by have : ((0 : Int32)).toInt = 0 := (by decide); omega), (by have e : (FI 121 68).toInt.toNat = (x1).toNatClampNeg := (i_cl (congrArg Int32.toInt (h2)).symm).symm; unfold kf wf; rw [e]; have := congrArg Int32.toInt (h8); have hz : (((0 : Int32))).toInt = 0 := (by decide : (0 : Int32).toInt = 0); have := congrArg Int64.toInt (h12); omega)⟩
    · refine hw_ic (v := (1 : Int32)) (aX12_isSign 16 rfl) (by decide) ?_
      refine xw_goto (tgt := 33) (aX12_isSign 17 rfl) (by decide) ?_
      refine xw_iret (aX12_isSign 19 rfl) rfl (by decide) ?_
      have e17 : ((1 : Int32)).toInt = 1 := (by decide : (1 : Int32).toInt = 1)
      exact ⟨(1 : Int32), rfl, rfl, (by have : ((1 : Int32)).toInt = 1 := (by decide); omega), (by have : ((1 : Int32)).toInt = 1 := (by decide); omega), (by have e : (FI 121 68).toInt.toNat = (x1).toNatClampNeg := (i_cl (congrArg Int32.toInt (h2)).symm).symm; unfold kf wf; rw [e]; have := congrArg Int32.toInt (h8); have hz : (((1 : Int32))).toInt = 1 := (by decide : (1 : Int32).toInt = 1); have := congrArg Int64.toInt (h12); omega)⟩
def nX12_isWord : Nat := 0xac030400a70407009a94851b2fde01b42a6c00b42a1600a0052ede01b42a6900b42a
theorem bX12_isWord : cX12_isWord.data.toList.map UInt8.toNat = x_un nX12_isWord 34 := by decide +kernel
def iX12_isWord : List (Nat × Jvm.ClassFile.Instr × Nat) := [(0, .aload_n 0, 1), (1, .getfield 105, 3), (4, .aload_n 0, 1), (5, .getfield 478, 3), (8, .iaload, 1), (9, .iconst 2, 1), (10, .if_icmp .ne 22, 3), (13, .aload_n 0, 1), (14, .getfield 108, 3), (17, .aload_n 0, 1), (18, .getfield 478, 3), (21, .laload, 1), (22, .iload_n 1, 1), (23, .i2l, 1), (24, .lcmp, 1), (25, .ifCond .ne 7, 3), (28, .iconst 1, 1), (29, .goto 4, 3), (32, .iconst 0, 1), (33, .ireturn, 1)]
theorem dX12_isWord : x_il nX12_isWord 34 iX12_isWord = true := by decide +kernel
theorem aX12_isWord (k : Nat) {pc : Nat} {i : Jvm.ClassFile.Instr} {len : Nat} (hk : iX12_isWord[k]? = some (pc, i, len)) : x_at xMM 216 pc i len yX12_isWord 2 (some .boolean) := ⟨cX12_isWord, rfl, x_il_ok bX12_isWord dX12_isWord k hk⟩
set_option maxHeartbeats 4000000 in
set_option maxRecDepth 100000 in
theorem n_isWord {sk : xK} {base d n sl : Nat} {SH : Nat → Nat × Nat} {FI : Nat → Nat → Int32} {FL : Nat → Nat → Int64} {FR : Nat → Nat → Option Nat} (hS : h_S n SH) (hF : h_FR FR) (hI : g_I FI) (a1 : Int32) (g0 : (FI 121 68).toInt ≤ (FI 121 67).toInt - 1) (rel_tend : rl_e (FI 149) (FI 121 67)) : hw sk base d none 216 0 [(0, .ref (base + 121)), (1, .int (a1))] [] (n, sl, SH, FI, FL, FR) (h_I (fun r s => s = (n, sl, SH, FI, FL, FR) ∧ (r.toInt = 1 → (FI 121 68).toInt < (FI 121 67).toInt - 1) ∧ (0 ≤ r.toInt ∧ r.toInt ≤ 1) ∧ ((r.toInt = 1 ↔ (kf (FI 149) (FI 121 68).toInt.toNat = 2 ∧ wf (FL 150) (FI 121 68).toInt.toNat = (a1).toInt))))) := by
  have rg_a1 := i_rng a1
  obtain ⟨x1, h2⟩ : ∃ y, FI 121 68 = y := ⟨_, rfl⟩
  have h2l := congrArg Int32.toInt h2
  have b3 := gI_121_68 hI; rw [h2] at b3
  obtain ⟨x4, h5⟩ : ∃ y, FI 121 67 = y := ⟨_, rfl⟩
  have h5l := congrArg Int32.toInt h5
  have b6 := gI_121_67 hI; rw [h5] at b6
  refine hw_aloadn (aX12_isWord 0 rfl) rfl ?_
  refine hw_get (v := .ref (base + 149)) (aX12_isWord 1 rfl) wf_RX12_105 (c121 hS) (s121 hS) (by decide) (congrArg (fun r => va_rf (h_rf base r)) (r121_62 hF)) ?_
  refine hw_aloadn (aX12_isWord 2 rfl) rfl ?_
  refine hw_get (v := .int (x1)) (aX12_isWord 3 rfl) wf_RX12_478 (c121 hS) (s121 hS) (by decide) (congrArg Value.int (show FI 121 68 = x1 from h2)) ?_
  obtain ⟨x7, h8⟩ : ∃ y, FI 149 (x1).toNatClampNeg = y := ⟨_, rfl⟩
  have h8l := congrArg Int32.toInt h8
  have := i_rng x7
  refine hw_iald (v := x7) (aX12_isWord 4 rfl) (c149 hS) (s149 hS) (h_in rfl (by omega) (by omega)) (show FI 149 (x1).toNatClampNeg = x7 from h8) ?_
  refine hw_ic (v := (2 : Int32)) (aX12_isWord 5 rfl) (by decide) ?_
  refine hw_icne (tgt := 32) (aX12_isWord 6 rfl) (by decide) rfl (by decide : (2 : Int32).toInt = 2) (fun cd9 => ?_) (fun cd9 => ?_)
  · refine hw_ic (v := (0 : Int32)) (aX12_isWord 18 rfl) (by decide) ?_
    refine xw_iret (aX12_isWord 19 rfl) rfl (by decide) ?_
    have e10 : ((0 : Int32)).toInt = 0 := (by decide : (0 : Int32).toInt = 0)
    exact ⟨(0 : Int32), rfl, rfl, (by have : ((0 : Int32)).toInt = 0 := (by decide); omega), (by have : ((0 : Int32)).toInt = 0 := (by decide); omega), (by have e : (FI 121 68).toInt.toNat = (x1).toNatClampNeg := (i_cl (congrArg Int32.toInt (h2)).symm).symm; unfold kf wf; rw [e]; have := congrArg Int32.toInt (h8); have hz : (((0 : Int32))).toInt = 0 := (by decide : (0 : Int32).toInt = 0); omega)⟩
  · have hne := rl_e_ne rel_tend (t := x1) (by omega)
    refine hw_aloadn (aX12_isWord 7 rfl) rfl ?_
    refine hw_get (v := .ref (base + 150)) (aX12_isWord 8 rfl) wf_RX12_108 (c121 hS) (s121 hS) (by decide) (congrArg (fun r => va_rf (h_rf base r)) (r121_63 hF)) ?_
    refine hw_aloadn (aX12_isWord 9 rfl) rfl ?_
    refine hw_get (v := .int (x1)) (aX12_isWord 10 rfl) wf_RX12_478 (c121 hS) (s121 hS) (by decide) (congrArg Value.int (show FI 121 68 = x1 from h2)) ?_
    obtain ⟨x11, h12⟩ : ∃ y, FL 150 (x1).toNatClampNeg = y := ⟨_, rfl⟩
    have h12l := congrArg Int64.toInt h12
    have := l_rng x11
    refine hw_lald (v := x11) (aX12_isWord 11 rfl) (c150 hS) (s150 hS) (h_in rfl (by omega) (by omega)) (show FL 150 (x1).toNatClampNeg = x11 from h12) ?_
    refine xw_iloadn (aX12_isWord 12 rfl) rfl ?_
    refine xw_i2l (aX12_isWord 13 rfl) ?_
    refine hw_tle (A := (a1).toInt) (i_2l rfl) (fun x13 e14 => ?_)
    refine hw_lcne (tgt := 32) (aX12_isWord 14 rfl) (aX12_isWord 15 rfl) (by decide) rfl e14 (fun cd15 => ?_) (fun cd15 => ?_)
    · refine hw_ic (v := (0 : Int32)) (aX12_isWord 18 rfl) (by decide) ?_
      refine xw_iret (aX12_isWord 19 rfl) rfl (by decide) ?_
      have e16 : ((0 : Int32)).toInt = 0 := (by decide : (0 : Int32).toInt = 0)
      exact ⟨(0 : Int32), rfl, rfl, (by have : ((0 : Int32)).toInt = 0 := (by decide); omega), (by have : ((0 : Int32)).toInt = 0 := (by decide); omega), (by have e : (FI 121 68).toInt.toNat = (x1).toNatClampNeg := (i_cl (congrArg Int32.toInt (h2)).symm).symm; unfold kf wf; rw [e]; have := congrArg Int32.toInt (h8); have hz : (((0 : Int32))).toInt = 0 := (by decide : (0 : Int32).toInt = 0); have := congrArg Int64.toInt (h12); omega)⟩
    · refine hw_ic (v := (1 : Int32)) (aX12_isWord 16 rfl) (by decide) ?_
      refine xw_goto (tgt := 33) (aX12_isWord 17 rfl) (by decide) ?_
      refine xw_iret (aX12_isWord 19 rfl) rfl (by decide) ?_
      have e17 : ((1 : Int32)).toInt = 1 := (by decide : (1 : Int32).toInt = 1)
      exact ⟨(1 : Int32), rfl, rfl, (by have : ((1 : Int32)).toInt = 1 := (by decide); omega), (by have : ((1 : Int32)).toInt = 1 := (by decide); omega), (by have e : (FI 121 68).toInt.toNat = (x1).toNatClampNeg := (i_cl (congrArg Int32.toInt (h2)).symm).symm; unfold kf wf; rw [e]; have := congrArg Int32.toInt (h8); have hz : (((1 : Int32))).toInt = 1 := (by decide : (1 : Int32).toInt = 1); have := congrArg Int64.toInt (h12); omega)⟩
def nX12_need : Nat := 0xb1e701b6042a0800a7de01b56004de01b42a2a100099e401b61b2ab1040099db01b42a
theorem bX12_need : cX12_need.data.toList.map UInt8.toNat = x_un nX12_need 35 := by decide +kernel
def iX12_need : List (Nat × Jvm.ClassFile.Instr × Nat) := [(0, .aload_n 0, 1), (1, .getfield 475, 3), (4, .ifCond .eq 4, 3), (7, .return_, 1), (8, .aload_n 0, 1), (9, .iload_n 1, 1), (10, .invokevirtual 484, 3), (13, .ifCond .eq 16, 3), (16, .aload_n 0, 1), (17, .aload_n 0, 1), (18, .getfield 478, 3), (21, .iconst 1, 1), (22, .iadd, 1), (23, .putfield 478, 3), (26, .goto 8, 3), (29, .aload_n 0, 1), (30, .iconst 1, 1), (31, .invokevirtual 487, 3), (34, .return_, 1)]
theorem dX12_need : x_il nX12_need 35 iX12_need = true := by decide +kernel
theorem aX12_need (k : Nat) {pc : Nat} {i : Jvm.ClassFile.Instr} {len : Nat} (hk : iX12_need[k]? = some (pc, i, len)) : x_at xMM 217 pc i len yX12_need 2 none := ⟨cX12_need, rfl, x_il_ok bX12_need dX12_need k hk⟩
set_option maxHeartbeats 4000000 in
set_option maxRecDepth 100000 in
theorem n_need {sk : xK} {base d n sl : Nat} {SH : Nat → Nat × Nat} {FI : Nat → Nat → Int32} {FL : Nat → Nat → Int64} {FR : Nat → Nat → Option Nat} (hS : h_S n SH) (hF : h_FR FR) (hI : g_I FI) (a1 : Int32) (g0 : (FI 121 68).toInt ≤ (FI 121 67).toInt - 1) (rel_tend : rl_e (FI 149) (FI 121 67)) : hw sk base (d + 1) none 217 0 [(0, .ref (base + 121)), (1, .int (a1))] [] (n, sl, SH, FI, FL, FR) (h_V (fun s => ∃ FI', s = (n, sl, SH, FI', FL, FR) ∧ g_I FI' ∧ g_fr n SH [(121, 68), (121, 69), (121, 70)] [] [] FI FI' ∧ ((FI' 121 68).toInt ≤ (FI' 121 67).toInt - 1) ∧ ((FI' 121 69).toInt = 0 → (FI' 121 68).toInt = (FI 121 68).toInt + 1 ∧ (FI 121 69).toInt = 0) ∧ ((FI' 121 68).toInt ≤ (FI 121 68).toInt + 1 ∧ (FI 121 68).toInt ≤ (FI' 121 68).toInt) ∧ ((FI' 121 69).toInt = 0 → kf (FI 149) (FI 121 68).toInt.toNat = 5 ∧ wf (FL 150) (FI 121 68).toInt.toNat = (a1).toInt))) := by
  have rg_a1 := i_rng a1
  obtain ⟨x1, h2⟩ : ∃ y, FI 121 68 = y := ⟨_, rfl⟩
  have h2l := congrArg Int32.toInt h2
  have b3 := gI_121_68 hI; rw [h2] at b3
  obtain ⟨x4, h5⟩ : ∃ y, FI 121 67 = y := ⟨_, rfl⟩
  have h5l := congrArg Int32.toInt h5
  have b6 := gI_121_67 hI; rw [h5] at b6
  obtain ⟨x7, h8⟩ : ∃ y, FI 121 69 = y := ⟨_, rfl⟩
  have h8l := congrArg Int32.toInt h8
  have := i_rng x7
  refine hw_aloadn (aX12_need 0 rfl) rfl ?_
  refine hw_get (v := .int (x7)) (aX12_need 1 rfl) wf_RX12_475 (c121 hS) (s121 hS) (by decide) (congrArg Value.int (show FI 121 69 = x7 from h8)) ?_
  refine hw_ifeq (tgt := 8) (aX12_need 2 rfl) (by decide) rfl (fun cd9 => ?_) (fun cd9 => ?_)
  · refine hw_aloadn (aX12_need 4 rfl) rfl ?_
    refine xw_iloadn (aX12_need 5 rfl) rfl ?_
    refine hw_callV (Bs := [.int (a1)]) (rest := []) (aX12_need 6 rfl) wc_RX12_484 (by decide) rfl wi_yX12_isSign wv_yX12_isSign (c121 hS) (s121 hS) rfl rfl rfl (Nat.le_of_ble_eq_true rfl) (Nat.le_of_ble_eq_true rfl) (n_isSign (d := d) hS hF hI (a1) (by have := congrArg Int32.toInt (show FI 121 68 = x1 from h2); have := congrArg Int32.toInt (show FI 121 67 = x4 from h5); omega) (show rl_e (FI 149) (FI 121 67) from rel_tend)) (fun v10 sv11 p12 => ?_)
    have := congrArg Int32.toInt (show FI 121 68 = x1 from h2)
    have := congrArg Int32.toInt (show FI 121 67 = x4 from h5)
    obtain ⟨r13, rfl, rfl, t15, t16, u17⟩ := p12
    show hw sk base _ _ _ _ _ [.int (r13)] _ _
    refine hw_ifeq (tgt := 29) (aX12_need 7 rfl) (by decide) rfl (fun cd18 => ?_) (fun cd18 => ?_)
    · clear t15
      refine hw_aloadn (aX12_need 15 rfl) rfl ?_
      refine hw_ic (v := (1 : Int32)) (aX12_need 16 rfl) (by decide) ?_
      refine hw_callV (Bs := [.int ((1 : Int32))]) (rest := []) (aX12_need 17 rfl) wc_RX12_487 (by decide) rfl wi_yX12_fail wv_yX12_fail (c121 hS) (s121 hS) rfl rfl rfl (Nat.le_of_ble_eq_true rfl) (Nat.le_of_ble_eq_true rfl) (n_fail (d := d) hS hF hI ((1 : Int32)) (by have := ((by decide : (1 : Int32).toInt = 1) : ((1 : Int32)).toInt = 1); omega)) (fun v19 sv20 p21 => ?_)
      obtain ⟨rfl, FI23, rfl, hI24, f25, t26⟩ := p21
      have rl27 : rl_e (FI23 149) (FI23 121 67) := by rw [show FI23 149 = FI 149 from gf_row f25 (c149 hS) (s149 hS) rfl rfl, show FI23 121 67 = FI 121 67 from gf_at f25 (c121 hS) (s121 hS) rfl rfl]; exact rel_tend
      obtain ⟨x28, h29⟩ : ∃ y, FI23 121 69 = y := ⟨_, rfl⟩
      have h29l := congrArg Int32.toInt h29
      have := i_rng x28
      show hw sk base _ _ _ _ _ [] _ _
      refine xw_vret (aX12_need 18 rfl) rfl ?_
      exact ⟨rfl, FI23, rfl, hI24, (gf_tr ex_rf gf_rf f25 rfl rfl rfl), (by have := congrArg Int32.toInt (show FI23 121 67 = x4 from (gf_at f25 (c121 hS) (s121 hS) rfl (h5))); have := congrArg Int32.toInt (show FI23 121 68 = x1 from (gf_at f25 (c121 hS) (s121 hS) rfl (h2))); omega), (by have := congrArg Int32.toInt (show FI23 121 68 = x1 from (gf_at f25 (c121 hS) (s121 hS) rfl (h2))); have := congrArg Int32.toInt (show FI23 121 69 = x28 from h29); omega), (by have := congrArg Int32.toInt (show FI23 121 68 = x1 from (gf_at f25 (c121 hS) (s121 hS) rfl (h2))); omega), (by have := congrArg Int32.toInt (show FI23 121 69 = x28 from h29); exact fun h => absurd h (by omega))⟩
    · replace t15 := t15 (by omega)
      refine hw_aloadn (aX12_need 8 rfl) rfl ?_
      refine hw_aloadn (aX12_need 9 rfl) rfl ?_
      refine hw_get (v := .int (x1)) (aX12_need 10 rfl) wf_RX12_478 (c121 hS) (s121 hS) (by decide) (congrArg Value.int (show FI 121 68 = x1 from h2)) ?_
      refine hw_ic (v := (1 : Int32)) (aX12_need 11 rfl) (by decide) ?_
      refine xw_iadd (aX12_need 12 rfl) ?_
      refine hw_tie (A := ((x1).toInt) + (1)) (i_add rfl (by decide : (1 : Int32).toInt = 1) (by omega) (by omega)) (fun x30 e31 => ?_)
      refine hv_puti (aX12_need 13 rfl) wf_RX12_478 (c121 hS) (s121 hS) (by decide) rfl rfl (fun FI32 u33 => ?_)
      have rl34 : rl_e (FI32 149) (FI32 121 67) := by rw [show FI32 149 = FI 149 from up_row u33 (by decide) rfl, show FI32 121 67 = FI 121 67 from up_k u33 (by decide) rfl]; exact rel_tend
      have hI35 : g_I FI32 := gU_121_68 hI u33 (by have := (e31 : (x30).toInt = ((x1).toInt) + (1)); omega) (by have := (e31 : (x30).toInt = ((x1).toInt) + (1)); omega)
      refine xw_goto (tgt := 34) (aX12_need 14 rfl) (by decide) ?_
      refine xw_vret (aX12_need 18 rfl) rfl ?_
      exact ⟨rfl, FI32, rfl, hI35, (gf_f gf_rf u33 (by decide)), (by have := congrArg Int32.toInt (show FI32 121 67 = x4 from (up_k u33 (by decide) (h5))); have := congrArg Int32.toInt (show FI32 121 68 = x30 from up_eq u33); have := (e31 : (x30).toInt = ((x1).toInt) + (1)); omega), (by have := congrArg Int32.toInt (show FI32 121 68 = x30 from up_eq u33); have := (e31 : (x30).toInt = ((x1).toInt) + (1)); have := congrArg Int32.toInt (show FI32 121 69 = x7 from (up_k u33 (by decide) (h8))); omega), (by have := congrArg Int32.toInt (show FI32 121 68 = x30 from up_eq u33); have := (e31 : (x30).toInt = ((x1).toInt) + (1)); omega), (by exact fun _ => u17.mp (by omega))⟩
  · refine xw_vret (aX12_need 3 rfl) rfl ?_
    exact ⟨rfl, FI, rfl, hI, gf_rf, (by have := congrArg Int32.toInt (show FI 121 67 = x4 from h5); have := congrArg Int32.toInt (show FI 121 68 = x1 from h2); omega), (by have := congrArg Int32.toInt (show FI 121 68 = x1 from h2); have := congrArg Int32.toInt (show FI 121 69 = x7 from h8); omega), (by have := congrArg Int32.toInt (show FI 121 68 = x1 from h2); omega), (by have := congrArg Int32.toInt (show FI 121 69 = x7 from h8); exact fun h => absurd h (by omega))⟩
def nX12_opens : Nat := 0xb1de01b56004de01b42a2aea01b56004ea01b42a2ae701b6082a0800a00c10ea01b42a
theorem bX12_opens : cX12_opens.data.toList.map UInt8.toNat = x_un nX12_opens 35 := by decide +kernel
def iX12_opens : List (Nat × Jvm.ClassFile.Instr × Nat) := [(0, .aload_n 0, 1), (1, .getfield 490, 3), (4, .bipush 12, 2), (6, .if_icmp .ne 8, 3), (9, .aload_n 0, 1), (10, .iconst 5, 1), (11, .invokevirtual 487, 3), (14, .aload_n 0, 1), (15, .aload_n 0, 1), (16, .getfield 490, 3), (19, .iconst 1, 1), (20, .iadd, 1), (21, .putfield 490, 3), (24, .aload_n 0, 1), (25, .aload_n 0, 1), (26, .getfield 478, 3), (29, .iconst 1, 1), (30, .iadd, 1), (31, .putfield 478, 3), (34, .return_, 1)]
theorem dX12_opens : x_il nX12_opens 35 iX12_opens = true := by decide +kernel
theorem aX12_opens (k : Nat) {pc : Nat} {i : Jvm.ClassFile.Instr} {len : Nat} (hk : iX12_opens[k]? = some (pc, i, len)) : x_at xMM 218 pc i len yX12_opens 1 none := ⟨cX12_opens, rfl, x_il_ok bX12_opens dX12_opens k hk⟩
set_option maxHeartbeats 4000000 in
set_option maxRecDepth 100000 in
theorem n_opens {sk : xK} {base d n sl : Nat} {SH : Nat → Nat × Nat} {FI : Nat → Nat → Int32} {FL : Nat → Nat → Int64} {FR : Nat → Nat → Option Nat} (hS : h_S n SH) (hF : h_FR FR) (hI : g_I FI) (g0 : (FI 121 68).toInt < (FI 121 67).toInt - 1) (g1 : 0 ≤ (FI 121 71).toInt ∧ (FI 121 71).toInt ≤ 100) : hw sk base (d + 1) none 218 0 [(0, .ref (base + 121))] [] (n, sl, SH, FI, FL, FR) (h_V (fun s => ∃ FI', s = (n, sl, SH, FI', FL, FR) ∧ g_I FI' ∧ g_fr n SH [(121, 68), (121, 69), (121, 70), (121, 71)] [] [] FI FI' ∧ ((FI' 121 68).toInt = (FI 121 68).toInt + 1) ∧ ((FI' 121 71).toInt = (FI 121 71).toInt + 1) ∧ ((FI' 121 69).toInt = 0 → (FI 121 71).toInt ≠ 12 ∧ (FI 121 69).toInt = 0))) := by
  obtain ⟨x1, h2⟩ : ∃ y, FI 121 68 = y := ⟨_, rfl⟩
  have h2l := congrArg Int32.toInt h2
  have b3 := gI_121_68 hI; rw [h2] at b3
  obtain ⟨x4, h5⟩ : ∃ y, FI 121 67 = y := ⟨_, rfl⟩
  have h5l := congrArg Int32.toInt h5
  have b6 := gI_121_67 hI; rw [h5] at b6
  obtain ⟨x7, h8⟩ : ∃ y, FI 121 71 = y := ⟨_, rfl⟩
  have h8l := congrArg Int32.toInt h8
  have := i_rng x7
  obtain ⟨x9, h10⟩ : ∃ y, FI 121 69 = y := ⟨_, rfl⟩
  have h10l := congrArg Int32.toInt h10
  have := i_rng x9
  have e11 : 0 ≤ (x7).toInt ∧ (x7).toInt ≤ 100 := by omega
  refine hw_aloadn (aX12_opens 0 rfl) rfl ?_
  refine hw_get (v := .int (x7)) (aX12_opens 1 rfl) wf_RX12_490 (c121 hS) (s121 hS) (by decide) (congrArg Value.int (show FI 121 71 = x7 from h8)) ?_
  refine hw_bp (v := (12 : Int32)) (aX12_opens 2 rfl) (by decide) ?_
  refine hw_icne (tgt := 14) (aX12_opens 3 rfl) (by decide) rfl (by decide : (12 : Int32).toInt = 12) (fun cd12 => ?_) (fun cd12 => ?_)
  · refine hw_aloadn (aX12_opens 7 rfl) rfl ?_
    refine hw_aloadn (aX12_opens 8 rfl) rfl ?_
    refine hw_get (v := .int (x7)) (aX12_opens 9 rfl) wf_RX12_490 (c121 hS) (s121 hS) (by decide) (congrArg Value.int (show FI 121 71 = x7 from h8)) ?_
    refine hw_ic (v := (1 : Int32)) (aX12_opens 10 rfl) (by decide) ?_
    refine xw_iadd (aX12_opens 11 rfl) ?_
    refine hw_tie (A := ((x7).toInt) + (1)) (i_add rfl (by decide : (1 : Int32).toInt = 1) (by omega) (by omega)) (fun x13 e14 => ?_)
    refine hv_puti (aX12_opens 12 rfl) wf_RX12_490 (c121 hS) (s121 hS) (by decide) rfl rfl (fun FI15 u16 => ?_)
    have hI17 : g_I FI15 := gU_F hI u16 rfl
    refine hw_aloadn (aX12_opens 13 rfl) rfl ?_
    refine hw_aloadn (aX12_opens 14 rfl) rfl ?_
    refine hw_get (v := .int (x1)) (aX12_opens 15 rfl) wf_RX12_478 (c121 hS) (s121 hS) (by decide) (congrArg Value.int (show FI15 121 68 = x1 from (up_k u16 (by decide) (h2)))) ?_
    refine hw_ic (v := (1 : Int32)) (aX12_opens 16 rfl) (by decide) ?_
    refine xw_iadd (aX12_opens 17 rfl) ?_
    refine hw_tie (A := ((x1).toInt) + (1)) (i_add rfl (by decide : (1 : Int32).toInt = 1) (by omega) (by omega)) (fun x18 e19 => ?_)
    refine hv_puti (aX12_opens 18 rfl) wf_RX12_478 (c121 hS) (s121 hS) (by decide) rfl rfl (fun FI20 u21 => ?_)
    have hI22 : g_I FI20 := gU_121_68 hI17 u21 (by have := (e19 : (x18).toInt = ((x1).toInt) + (1)); omega) (by have := (e19 : (x18).toInt = ((x1).toInt) + (1)); omega)
    refine xw_vret (aX12_opens 19 rfl) rfl ?_
    exact ⟨rfl, FI20, rfl, hI22, (gf_f (gf_f gf_rf u16 (by decide)) u21 (by decide)), (by have := congrArg Int32.toInt (show FI20 121 68 = x18 from up_eq u21); have := (e19 : (x18).toInt = ((x1).toInt) + (1)); omega), (by have := congrArg Int32.toInt (show FI20 121 71 = x13 from (up_k u21 (by decide) (up_eq u16))); have := (e14 : (x13).toInt = ((x7).toInt) + (1)); omega), (by have := congrArg Int32.toInt (show FI20 121 69 = x9 from (up_k u21 (by decide) ((up_k u16 (by decide) (h10))))); omega)⟩
  · refine hw_aloadn (aX12_opens 4 rfl) rfl ?_
    refine hw_ic (v := (5 : Int32)) (aX12_opens 5 rfl) (by decide) ?_
    refine hw_callV (Bs := [.int ((5 : Int32))]) (rest := []) (aX12_opens 6 rfl) wc_RX12_487 (by decide) rfl wi_yX12_fail wv_yX12_fail (c121 hS) (s121 hS) rfl rfl rfl (Nat.le_of_ble_eq_true rfl) (Nat.le_of_ble_eq_true rfl) (n_fail (d := d) hS hF hI ((5 : Int32)) (by have := ((by decide : (5 : Int32).toInt = 5) : ((5 : Int32)).toInt = 5); omega)) (fun v23 sv24 p25 => ?_)
    obtain ⟨rfl, FI27, rfl, hI28, f29, t30⟩ := p25
    obtain ⟨x31, h32⟩ : ∃ y, FI27 121 69 = y := ⟨_, rfl⟩
    have h32l := congrArg Int32.toInt h32
    have := i_rng x31
    show hw sk base _ _ _ _ _ [] _ _
    refine hw_aloadn (aX12_opens 7 rfl) rfl ?_
    refine hw_aloadn (aX12_opens 8 rfl) rfl ?_
    refine hw_get (v := .int (x7)) (aX12_opens 9 rfl) wf_RX12_490 (c121 hS) (s121 hS) (by decide) (congrArg Value.int (show FI27 121 71 = x7 from (gf_at f29 (c121 hS) (s121 hS) rfl (h8)))) ?_
    refine hw_ic (v := (1 : Int32)) (aX12_opens 10 rfl) (by decide) ?_
    refine xw_iadd (aX12_opens 11 rfl) ?_
    refine hw_tie (A := ((x7).toInt) + (1)) (i_add rfl (by decide : (1 : Int32).toInt = 1) (by omega) (by omega)) (fun x33 e34 => ?_)
    refine hv_puti (aX12_opens 12 rfl) wf_RX12_490 (c121 hS) (s121 hS) (by decide) rfl rfl (fun FI35 u36 => ?_)
    have hI37 : g_I FI35 := gU_F hI28 u36 rfl
    refine hw_aloadn (aX12_opens 13 rfl) rfl ?_
    refine hw_aloadn (aX12_opens 14 rfl) rfl ?_
    refine hw_get (v := .int (x1)) (aX12_opens 15 rfl) wf_RX12_478 (c121 hS) (s121 hS) (by decide) (congrArg Value.int (show FI35 121 68 = x1 from (up_k u36 (by decide) ((gf_at f29 (c121 hS) (s121 hS) rfl (h2)))))) ?_
    refine hw_ic (v := (1 : Int32)) (aX12_opens 16 rfl) (by decide) ?_
    refine xw_iadd (aX12_opens 17 rfl) ?_
    refine hw_tie (A := ((x1).toInt) + (1)) (i_add rfl (by decide : (1 : Int32).toInt = 1) (by omega) (by omega)) (fun x38 e39 => ?_)
    refine hv_puti (aX12_opens 18 rfl) wf_RX12_478 (c121 hS) (s121 hS) (by decide) rfl rfl (fun FI40 u41 => ?_)
    have hI42 : g_I FI40 := gU_121_68 hI37 u41 (by have := (e39 : (x38).toInt = ((x1).toInt) + (1)); omega) (by have := (e39 : (x38).toInt = ((x1).toInt) + (1)); omega)
    refine xw_vret (aX12_opens 19 rfl) rfl ?_
    exact ⟨rfl, FI40, rfl, hI42, (gf_f (gf_f (gf_tr ex_rf gf_rf f29 rfl rfl rfl) u36 (by decide)) u41 (by decide)), (by have := congrArg Int32.toInt (show FI40 121 68 = x38 from up_eq u41); have := (e39 : (x38).toInt = ((x1).toInt) + (1)); omega), (by have := congrArg Int32.toInt (show FI40 121 71 = x33 from (up_k u41 (by decide) (up_eq u36))); have := (e34 : (x33).toInt = ((x7).toInt) + (1)); omega), (by have := congrArg Int32.toInt (show FI40 121 69 = x31 from (up_k u41 (by decide) ((up_k u36 (by decide) (h32))))); omega)⟩
end
