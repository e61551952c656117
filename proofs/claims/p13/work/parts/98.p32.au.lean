/-! THE LANGUAGE's expressions as a walk over tokens: place, whether an operand is wanted, the operators that wait (the last first). Both readings of the reference (compile, means) follow it. -/
def au_un (k w : Int) : Prop := k = 4 ∨ (k = 5 ∧ (w = 45 ∨ w = 126)) ∨ (k = 2 ∧ w = 7)
def au_bn (k w : Int) : Int :=
  if (k = 5 ∧ w = 42) ∨ (k = 2 ∧ (w = 8 ∨ w = 9)) then 7 else
  if k = 5 ∧ (w = 43 ∨ w = 45) then 6 else
  if k = 5 ∧ (w = 261 ∨ w = 262 ∨ w = 263) then 5 else
  if k = 5 ∧ (w = 257 ∨ w = 258 ∨ w = 60 ∨ w = 259 ∨ w = 62 ∨ w = 260) then 4 else
  if k = 5 ∧ w = 38 then 3 else if k = 5 ∧ w = 94 then 2 else if k = 5 ∧ w = 124 then 1 else 0
def au_fin (l : List Int) : List Int := l.dropWhile (fun x => decide (x = 9))
def au_red (b : Int) (l : List Int) : List Int := l.dropWhile (fun x => decide (b ≤ x))
def au_all (l : List Int) : List Int := l.dropWhile (fun x => decide (1 ≤ x ∨ x = -3))
def au_st (K W : Nat → Int) (p : Nat) (a : Bool) (l : List Int) (q : Nat) (b : Bool) (m : List Int) : Prop :=
  (a = true ∧ au_un (K p) (W p) ∧ q = p + 1 ∧ b = true ∧ m = 9 :: l) ∨
  (a = true ∧ K p = 5 ∧ W p = 40 ∧ q = p + 1 ∧ b = true ∧ m = -1 :: l) ∨
  (a = true ∧ (K p = 3 ∨ (K p = 2 ∧ (W p = 4 ∨ W p = 5 ∨ W p = 6))) ∧ q = p + 1 ∧ b = false ∧ m = au_fin l) ∨
  (a = true ∧ K p = 5 ∧ W p = 37 ∧ K (p + 1) = 3 ∧ W (p + 1) ≤ 31 ∧ q = p + 2 ∧ b = false ∧ m = au_fin l) ∨
  (a = false ∧ au_bn (K p) (W p) ≠ 0 ∧ q = p + 1 ∧ b = true ∧ m = au_bn (K p) (W p) :: au_red (au_bn (K p) (W p)) l) ∨
  (a = false ∧ K p = 5 ∧ W p = 63 ∧ q = p + 1 ∧ b = true ∧ m = -2 :: au_red 1 l) ∨
  (a = false ∧ K p = 5 ∧ W p = 58 ∧ (∃ r, au_all l = -2 :: r ∧ m = -3 :: r) ∧ q = p + 1 ∧ b = true) ∨
  (a = false ∧ K p = 5 ∧ W p = 41 ∧ (∃ r, au_all l = -1 :: r ∧ m = au_fin r) ∧ q = p + 1 ∧ b = false)
def au_rch (K W : Nat → Int) : Nat → Nat → Bool → List Int → Nat → Bool → List Int → Prop
  | 0, p, a, l, q, b, m => p = q ∧ a = b ∧ l = m
  | n + 1, p, a, l, q, b, m => ∃ p1 a1 l1, au_st K W p a l p1 a1 l1 ∧ l1.length < 250 ∧ au_rch K W n p1 a1 l1 q b m
def au_acc (K W : Nat → Int) (p q : Nat) : Prop := ∃ n l, au_rch K W n p true [] q false l ∧ au_bn (K q) (W q) = 0 ∧ ¬ (K q = 5 ∧ W q = 63) ∧ au_all l = []
theorem au_snoc {K W : Nat → Int} : ∀ (n p : Nat) (a : Bool) (l : List Int) (q : Nat) (b : Bool) (m : List Int) (q2 : Nat) (b2 : Bool) (m2 : List Int), au_rch K W n p a l q b m → au_st K W q b m q2 b2 m2 → m2.length < 250 → au_rch K W (n + 1) p a l q2 b2 m2
  | 0, p, a, l, q, b, m, q2, b2, m2, h, hs, hl => by
    obtain ⟨rfl, rfl, rfl⟩ := h
    exact ⟨q2, b2, m2, hs, hl, rfl, rfl, rfl⟩
  | n + 1, p, a, l, q, b, m, q2, b2, m2, h, hs, hl => by
    obtain ⟨p1, a1, l1, g1, g2, g3⟩ := h
    exact ⟨p1, a1, l1, g1, g2, au_snoc n _ _ _ _ _ _ _ _ _ g3 hs hl⟩
theorem au_st_lt {K W : Nat → Int} {p q : Nat} {a b : Bool} {l m : List Int} (h : au_st K W p a l q b m) : p < q := by
  unfold au_st at h
  rcases h with h | h | h | h | h | h | h | h
  · omega
  · omega
  · omega
  · omega
  · omega
  · omega
  · obtain ⟨-, -, -, -, h, -⟩ := h; omega
  · obtain ⟨-, -, -, -, h, -⟩ := h; omega
theorem au_rch_le {K W : Nat → Int} : ∀ (n p : Nat) (a : Bool) (l : List Int) (q : Nat) (b : Bool) (m : List Int), au_rch K W n p a l q b m → p ≤ q
  | 0, p, a, l, q, b, m, h => by obtain ⟨rfl, -, -⟩ := h; exact Nat.le_refl _
  | n + 1, p, a, l, q, b, m, h => by
    obtain ⟨p1, a1, l1, g1, g2, g3⟩ := h
    have := au_rch_le n _ _ _ _ _ _ g3
    have := au_st_lt g1
    omega
/-! what can lie on the stack -/
def au_el (x : Int) : Prop := x = 9 ∨ x = -1 ∨ x = -2 ∨ x = -3 ∨ (1 ≤ x ∧ x ≤ 7)
def au_ok : List Int → Prop
  | [] => True
  | x :: l => au_el x ∧ au_ok l ∧ (∀ y r, l = y :: r → ((1 ≤ x ∧ x ≤ 7) → (y < x ∧ y ≠ 9)) ∧ ((x = -2 ∨ x = -3) → y < 1))
def au_op : List Int → Nat
  | [] => 0
  | x :: l => (if 1 ≤ x ∧ x ≤ 7 then 0 else 1) + au_op l
def au_vc : List Int → Nat
  | [] => 0
  | x :: l => (if (1 ≤ x ∧ x ≤ 7) ∨ x = -3 then 1 else 0) + au_vc l
theorem au_ok_dw {p : Int → Bool} : ∀ {l : List Int}, au_ok l → au_ok (l.dropWhile p)
  | [], _ => trivial
  | x :: l, h => by
    rw [List.dropWhile_cons]
    split
    · exact au_ok_dw h.2.1
    · exact h
theorem au_dw_hd {p : Int → Bool} : ∀ {l : List Int} {y : Int} {r : List Int}, l.dropWhile p = y :: r → p y = false
  | [], y, r, h => by cases h
  | x :: l, y, r, h => by
    rw [List.dropWhile_cons] at h
    split at h
    · exact au_dw_hd h
    · rename_i hx
      cases h
      exact Bool.eq_false_iff.mpr hx
theorem au_ok_el {l : List Int} {y : Int} {r : List Int} (h : au_ok l) (e : l = y :: r) : au_el y := by subst e; exact h.1
theorem au_hgt : ∀ {l : List Int}, au_ok l → (∀ x r, l = x :: r → (1 ≤ x ∧ x ≤ 7) → (l.length : Int) ≤ 8 * au_op l + x) ∧ ((∀ x r, l = x :: r → ¬ (1 ≤ x ∧ x ≤ 7)) → l.length ≤ 8 * au_op l)
  | [], _ => ⟨fun _ _ h => (by cases h), fun _ => (by simp)⟩
  | x :: l, h => by
    obtain ⟨h1, h2, h3⟩ := h
    have ih := au_hgt h2
    refine ⟨fun x' r e hb => ?_, fun hb => ?_⟩
    · cases e
      simp only [List.length_cons, au_op, if_pos hb]
      cases l with
      | nil => simp [au_op]; omega
      | cons y r =>
        obtain ⟨g1, g2⟩ := (h3 y r rfl).1 hb
        by_cases hy : 1 ≤ y ∧ y ≤ 7
        · have := ih.1 y r rfl hy
          simp only [List.length_cons] at this ⊢
          push_cast at this ⊢
          omega
        · have := ih.2 (fun x r e => by cases e; exact hy)
          simp only [List.length_cons] at this ⊢
          push_cast
          omega
    · have hx : ¬ (1 ≤ x ∧ x ≤ 7) := hb x l rfl
      simp only [List.length_cons, au_op, if_neg hx]
      cases l with
      | nil => simp [au_op]
      | cons y r =>
        by_cases hy : 1 ≤ y ∧ y ≤ 7
        · have := ih.1 y r rfl hy
          simp only [List.length_cons] at this ⊢
          omega
        · have := ih.2 (fun x r e => by cases e; exact hy)
          simp only [List.length_cons] at this ⊢
          omega
theorem au_len {l : List Int} (h : au_ok l) : l.length ≤ 8 * au_op l + 7 := by
  cases l with
  | nil => simp
  | cons x r =>
    by_cases hx : 1 ≤ x ∧ x ≤ 7
    · have := (au_hgt h).1 x r rfl hx; omega
    · have := (au_hgt h).2 (fun y r e => by cases e; exact hx); omega
theorem au_bn_rg (k w : Int) : 0 ≤ au_bn k w ∧ au_bn k w ≤ 7 := by
  unfold au_bn
  repeat' split
  all_goals omega
theorem au_ok_red {b : Int} {l : List Int} (h : au_ok l) (hb : 1 ≤ b ∧ b ≤ 7) : au_ok (b :: au_red b l) := by
  refine ⟨Or.inr (Or.inr (Or.inr (Or.inr hb))), au_ok_dw h, fun y r e => ⟨fun _ => ?_, fun h => by omega⟩⟩
  have h1 := au_dw_hd (show l.dropWhile _ = y :: r from e)
  have h2 : ¬ b ≤ y := of_decide_eq_false h1
  omega
theorem au_ok_q {l : List Int} (h : au_ok l) : au_ok (-2 :: au_red 1 l) := by
  refine ⟨Or.inr (Or.inr (Or.inl rfl)), au_ok_dw h, fun y r e => ⟨fun h => by omega, fun _ => ?_⟩⟩
  have h1 := au_dw_hd (show l.dropWhile _ = y :: r from e)
  have h2 : ¬ (1 : Int) ≤ y := of_decide_eq_false h1
  omega
theorem au_ok_c {l : List Int} {r : List Int} (h : au_ok l) (e : au_all l = -2 :: r) : au_ok (-3 :: r) := by
  have h1 : au_ok (au_all l) := au_ok_dw h
  rw [e] at h1
  exact ⟨Or.inr (Or.inr (Or.inr (Or.inl rfl))), h1.2.1, fun y q e2 => ⟨fun h => by omega, fun _ => (h1.2.2 y q e2).2 (Or.inl rfl)⟩⟩
theorem au_fin_hd {l : List Int} {y : Int} {r : List Int} (e : au_fin l = y :: r) : y ≠ 9 := by
  have h1 := au_dw_hd (show l.dropWhile _ = y :: r from e)
  exact of_decide_eq_false h1
theorem au_st_ok {K W : Nat → Int} {p q : Nat} {a b : Bool} {l m : List Int} (h : au_st K W p a l q b m) (ho : au_ok l) (hh : a = false → ∀ y r, l = y :: r → y ≠ 9) : au_ok m ∧ (b = false → ∀ y r, m = y :: r → y ≠ 9) := by
  rcases h with ⟨-, -, -, rfl, rfl⟩ | ⟨-, -, -, -, rfl, rfl⟩ | ⟨-, -, -, rfl, rfl⟩ | ⟨-, -, -, -, -, -, rfl, rfl⟩ | ⟨ha, hb, -, rfl, rfl⟩ | ⟨-, -, -, -, rfl, rfl⟩ | ⟨-, -, -, ⟨r, e, rfl⟩, -, rfl⟩ | ⟨-, -, -, ⟨r, e, rfl⟩, -, rfl⟩
  · exact ⟨⟨Or.inl rfl, ho, fun y r e => ⟨fun h => by omega, fun h => by omega⟩⟩, fun h => by cases h⟩
  · exact ⟨⟨Or.inr (Or.inl rfl), ho, fun y r e => ⟨fun h => by omega, fun h => by omega⟩⟩, fun h => by cases h⟩
  · exact ⟨au_ok_dw ho, fun _ y r e => au_fin_hd e⟩
  · exact ⟨au_ok_dw ho, fun _ y r e => au_fin_hd e⟩
  · have := au_bn_rg (K p) (W p)
    exact ⟨au_ok_red ho (by omega), fun h => by cases h⟩
  · exact ⟨au_ok_q ho, fun h => by cases h⟩
  · exact ⟨au_ok_c ho e, fun h => by cases h⟩
  · have h1 : au_ok (au_all l) := au_ok_dw ho
    rw [e] at h1
    exact ⟨au_ok_dw h1.2.1, fun _ y r e => au_fin_hd e⟩
theorem au_rch_ok {K W : Nat → Int} : ∀ (n p : Nat) (a : Bool) (l : List Int) (q : Nat) (b : Bool) (m : List Int), au_rch K W n p a l q b m → au_ok l → (a = false → ∀ y r, l = y :: r → y ≠ 9) → au_ok m ∧ (b = false → ∀ y r, m = y :: r → y ≠ 9)
  | 0, p, a, l, q, b, m, h, h1, h2 => by obtain ⟨rfl, rfl, rfl⟩ := h; exact ⟨h1, h2⟩
  | n + 1, p, a, l, q, b, m, h, h1, h2 => by
    obtain ⟨p1, a1, l1, g1, g2, g3⟩ := h
    have := au_st_ok g1 h1 h2
    exact au_rch_ok n _ _ _ _ _ _ g3 this.1 this.2
/-! the stack in the machine -/
def sk (f : Nat → Int32) : Nat → List Int
  | 0 => []
  | w + 1 => (f w).toInt :: sk f w
theorem sk_len (f : Nat → Int32) : ∀ w, (sk f w).length = w
  | 0 => rfl
  | w + 1 => by simp [sk, sk_len f w]
theorem sk_up {f : Nat → Int32} {x : Int32} : ∀ {w k : Nat}, w ≤ k → sk (va_up f k x) w = sk f w
  | 0, k, _ => rfl
  | w + 1, k, h => by
    show (va_up f k x w).toInt :: sk (va_up f k x) w = _
    rw [sk_up (Nat.le_of_succ_le h)]
    have e : w ≠ k := by omega
    simp [va_up, e, sk]
theorem sk_push {f : Nat → Int32} {w : Nat} {x : Int32} : sk (va_up f w x) (w + 1) = x.toInt :: sk f w := by
  show (va_up f w x w).toInt :: sk (va_up f w x) w = _
  rw [sk_up (Nat.le_refl w)]
  simp [va_up]
theorem sk_top {f : Nat → Int32} {w : Nat} (h : 0 < w) : sk f w = (f (w - 1)).toInt :: sk f (w - 1) := by
  cases w with
  | zero => omega
  | succ w => rfl
