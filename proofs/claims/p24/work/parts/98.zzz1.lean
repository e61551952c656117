/-! WHAT CODE MEANS: an evaluator of an expression's bytes without fuel, and how it goes through their parts. -/
def xu : List Int → Int → Int → Int × List Int
  | [], _, a => (a, [])
  | b :: r, m, a => if b < 128 then (a + m * b, r) else xu r (m * 128) (a + m * (b - 128))
def xv : List Int → Int → Int → Int × List Int
  | [], _, a => (a, [])
  | b :: r, m, a => if b < 128 then (a + m * (if 64 ≤ b then b - 128 else b), r) else xv r (m * 128) (a + m * (b - 128))
def xb : Nat → List Int → Int × List Int
  | 0, l => (0, l)
  | _ + 1, [] => (0, [])
  | n + 1, b :: r => (b + 256 * (xb n r).1, (xb n r).2)
theorem xb_by (r : List Int) : ∀ (n : Nat) (v : Int), 0 ≤ v → v < 256 ^ n → xb n (lc_by v n ++ r) = (v, r)
  | 0, v, h0, h1 => by
    rw [Int.pow_zero] at h1
    have e : v = 0 := by omega
    rw [e]
    rfl
  | n + 1, v, h0, h1 => by
    rw [Int.pow_succ] at h1
    have h2 : v / 256 < 256 ^ n := Int.ediv_lt_of_lt_mul (by first | decide | (simp; done) | (simp [ms_0]; done)) h1
    have ih := xb_by r n (v / 256) (by omega) h2
    show (v % 256 + 256 * (xb n (lc_by (v / 256) n ++ r)).1, (xb n (lc_by (v / 256) n ++ r)).2) = (v, r)
    rw [ih]
    (try dsimp only)
    rw [show v % 256 + 256 * (v / 256) = v by omega]
theorem x_ma (m v a : Int) : a + m * (v % 128) + m * 128 * (v / 128) = a + m * v := by
  rw [Int.mul_assoc, Int.add_assoc, ← Int.mul_add, show v % 128 + 128 * (v / 128) = v by omega]
theorem xu_u (r : List Int) : ∀ (n : Nat) (v m a : Int), 0 ≤ v → v < 128 ^ (n + 1) → xu (lc_u n v ++ r) m a = (a + m * v, r)
  | 0, v, m, a, h0, h1 => by
    have h1 : v < 128 := h1
    show (if v < 128 then (a + m * v, r) else _) = _
    rw [if_pos h1]
  | n + 1, v, m, a, h0, h1 => by
    rw [Int.pow_succ] at h1
    unfold lc_u
    by_cases h2 : 127 < v
    · rw [if_pos h2]
      show (if v % 128 + 128 < 128 then _ else xu (lc_u n (v / 128) ++ r) (m * 128) (a + m * (v % 128 + 128 - 128))) = _
      rw [if_neg (by omega), show v % 128 + 128 - 128 = v % 128 by omega, xu_u r n (v / 128) (m * 128) _ (by omega) (Int.ediv_lt_of_lt_mul (by first | decide | (simp; done) | (simp [ms_0]; done)) h1), x_ma]
    · rw [if_neg h2]
      show (if v < 128 then (a + m * v, r) else _) = _
      rw [if_pos (by omega)]
theorem xv_s (r : List Int) : ∀ (n : Nat) (v m a : Int), -(64 * 128 ^ n) ≤ v → v < 64 * 128 ^ n → xv (lc_s n v ++ r) m a = (a + m * v, r)
  | 0, v, m, a, h0, h1 => by
    rw [Int.pow_zero] at h0 h1
    show (if v % 128 < 128 then (a + m * (if 64 ≤ v % 128 then v % 128 - 128 else v % 128), r) else _) = _
    rw [if_pos (by omega)]
    by_cases h2 : 64 ≤ v % 128
    · rw [if_pos h2, show v % 128 - 128 = v by omega]
    · rw [if_neg h2, show v % 128 = v by omega]
  | n + 1, v, m, a, h0, h1 => by
    rw [Int.pow_succ] at h0 h1
    unfold lc_s
    by_cases h2 : v < -64 ∨ 63 < v
    · rw [if_pos h2]
      show (if v % 128 + 128 < 128 then _ else xv (lc_s n (v / 128) ++ r) (m * 128) (a + m * (v % 128 + 128 - 128))) = _
      rw [if_neg (by omega), show v % 128 + 128 - 128 = v % 128 by omega]
      have q0 : -(64 * 128 ^ n) ≤ v / 128 := by
        generalize (128 : Int) ^ n = z at h0 h1 ⊢
        omega
      have q1 : v / 128 < 64 * 128 ^ n := by
        generalize (128 : Int) ^ n = z at h0 h1 ⊢
        omega
      rw [xv_s r n (v / 128) (m * 128) _ q0 q1, x_ma]
    · rw [if_neg h2]
      show (if v % 128 < 128 then (a + m * (if 64 ≤ v % 128 then v % 128 - 128 else v % 128), r) else _) = _
      rw [if_pos (by omega)]
      by_cases h3 : 64 ≤ v % 128
      · rw [if_pos h3, show v % 128 - 128 = v by omega]
      · rw [if_neg h3, show v % 128 = v by omega]
/-- an answer of an expression: a fault, or a number -/
abbrev xX := Int ⊕ Int64
/-- the sign between two -/
def xe2 (op : Int) : xX → xX → xX
  | .inl e, _ => .inl e
  | .inr _, .inl e => .inl e
  | .inr a, .inr b => if (op = 27 ∨ op = 29) ∧ b.toInt = 0 then .inl 6 else .inr (ms_wk op a b)
/-- what stands ahead of one -/
def xe1 (E : ms_E) (c w : Int) : xX → xX
  | .inl e => .inl e
  | .inr t =>
    if c = 6 then (if t.toInt < 0 ∨ 4088 < t.toInt then .inl 5 else .inr (ms_rd E t.toInt.toNat 8))
    else if c = 148 then (if t.toInt < 0 ∨ 4096 - w < t.toInt then .inl 5 else .inr (ms_rd E t.toInt.toNat w.toNat))
    else if c = 155 then (match ms_tl E with
      | none => .inl 11
      | some v => .inr (v + t))
    else if c = 31 then .inr (-t)
    else .inr (t ^^^ (-1 : Int64))
def x_cfa (E : ms_E) : xX := if ms_cr E = -1 then .inl 11 else .inr (ms_rg E (ms_cr E).toNat + ms_co E)
def x_obj (E : ms_E) : xX := match ms_ob E with
  | none => .inl 11
  | some v => .inr v
def x_ad (x : xX) (p : Int) : xX := match x with
  | .inl e => .inl e
  | .inr t => .inr (t + Int64.ofInt p)
def x_ps (x : xX) (r : List Int) (S : List Int64) : Int ⊕ (List Int × List Int64) := match x with
  | .inl e => .inl e
  | .inr t => .inr (r, t :: S)
def cx1 (E : ms_E) (fb : xX) (b : Int) (r : List Int) (S : List Int64) : Int ⊕ (List Int × List Int64) :=
  if 48 ≤ b ∧ b ≤ 79 then .inr (r, Int64.ofInt (b - 48) :: S)
  else if b = 8 then .inr ((xb 1 r).2, Int64.ofInt (xb 1 r).1 :: S)
  else if b = 10 then .inr ((xb 2 r).2, Int64.ofInt (xb 2 r).1 :: S)
  else if b = 12 then .inr ((xb 4 r).2, Int64.ofInt (xb 4 r).1 :: S)
  else if b = 14 then .inr ((xb 8 r).2, Int64.ofInt (xb 8 r).1 :: S)
  else if 112 ≤ b ∧ b ≤ 143 then .inr ((xv r 1 0).2, (ms_rg E (b - 112).toNat + Int64.ofInt (xv r 1 0).1) :: S)
  else if b = 145 then x_ps (x_ad fb (xv r 1 0).1) (xv r 1 0).2 S
  else if b = 156 then x_ps (x_cfa E) r S
  else if b = 151 then x_ps (x_obj E) r S
  else if b = 47 then .inr ((xb 2 r).2.drop (xb 2 r).1.toNat, S)
  else match S with
    | [] => .inl 3
    | t :: R =>
      if b = 148 then (match r with
        | [] => .inl 1
        | w :: r2 => x_ps (xe1 E 148 w (.inr t)) r2 R)
      else if b = 6 ∨ b = 155 ∨ b = 31 ∨ b = 32 then x_ps (xe1 E b 0 (.inr t)) r R
      else if b = 35 then .inr ((xu r 1 0).2, (t + Int64.ofInt (xu r 1 0).1) :: R)
      else if b = 40 then (if t.toInt = 0 then .inr ((xb 2 r).2, R) else .inr ((xb 2 r).2.drop (xb 2 r).1.toNat, R))
      else match R with
        | [] => .inl 3
        | s :: Q => x_ps (xe2 b (.inr s) (.inr t)) r Q
def xg (E : ms_E) (fb : xX) : Nat → List Int → List Int64 → Option (Int ⊕ List Int64)
  | 0, _, _ => none
  | _ + 1, [], S => some (.inr S)
  | g + 1, b :: r, S => match cx1 E fb b r S with
    | .inl e => some (Sum.inl e)
    | .inr q => xg E fb g q.1 q.2
/-- bytes that make one number, or a fault -/
def ce (E : ms_E) (fb : xX) (c : List Int) (v : xX) : Prop := ∀ r S, ∃ k, ∀ g, xg E fb (g + k) (c ++ r) S = match v with
  | .inl e => some (Sum.inl e)
  | .inr x => xg E fb g r (x :: S)
section CE
variable {E : ms_E} {fb : xX} {c c1 c2 c3 : List Int} {v x y z : xX}
theorem ce_u {v2 : xX} (h : ce E fb c v) (h2 : ce E fb c v2) : v = v2 := by
  obtain ⟨k, h⟩ := h [] []
  obtain ⟨k2, h2⟩ := h2 [] []
  have a := h (k2 + 1)
  have b := h2 (k + 1)
  rw [show k2 + 1 + k = k + 1 + k2 by omega] at a
  rw [a] at b
  match v, v2, b with
  | .inl e, .inl e2, b => rw [Sum.inl.inj (Option.some.inj b)]
  | .inl e, .inr x, b =>
    exfalso
    have b : some (Sum.inl e) = some (Sum.inr [x]) := b
    cases b
  | .inr x, .inl e, b =>
    exfalso
    have b : some (Sum.inr [x]) = some (Sum.inl e) := b
    cases b
  | .inr x, .inr y, b =>
    have b : some (Sum.inr [x] : Int ⊕ List Int64) = some (Sum.inr [y]) := b
    have b := (List.cons.inj (Sum.inr.inj (Option.some.inj b))).1
    rw [b]
/-- one operation that takes nothing -/
theorem ce_1 {b : Int} {o : List Int} (h : ∀ r S, cx1 E fb b (o ++ r) S = x_ps v r S) : ce E fb (b :: o) v := by
  intro r S
  refine ⟨1, fun g => ?_⟩
  show (match cx1 E fb b (o ++ r) S with
    | .inl e => some (Sum.inl e)
    | .inr q => xg E fb g q.1 q.2) = _
  rw [h]
  match v with
  | .inl e => rfl
  | .inr x => rfl
/-- something behind it -/
theorem ce_a {o : List Int} (f : xX → xX) (hf : ∀ e, f (.inl e) = .inl e) (h1 : ce E fb c x) (h2 : ∀ t r S, ∃ k, ∀ g, xg E fb (g + k) (o ++ r) (t :: S) = match f (.inr t) with
  | .inl e => some (Sum.inl e)
  | .inr x => xg E fb g r (x :: S)) : ce E fb (c ++ o) (f x) := by
  intro r S
  obtain ⟨k1, h1⟩ := h1 (o ++ r) S
  match x, h1 with
  | .inl e, h1 =>
    refine ⟨k1, fun g => ?_⟩
    rw [List.append_assoc, h1, hf]
  | .inr t, h1 =>
    obtain ⟨k2, h2⟩ := h2 t r S
    refine ⟨k2 + k1, fun g => ?_⟩
    rw [List.append_assoc, ← Nat.add_assoc, h1]
    exact h2 g
theorem ce_o {b : Int} {o : List Int} (f : xX → xX) (hf : ∀ e, f (.inl e) = .inl e) (h1 : ce E fb c x) (h2 : ∀ t r S, cx1 E fb b (o ++ r) (t :: S) = x_ps (f (.inr t)) r S) : ce E fb (c ++ b :: o) (f x) := by
  refine ce_a f hf h1 (fun t r S => ⟨1, fun g => ?_⟩)
  show (match cx1 E fb b (o ++ r) (t :: S) with
    | .inl e => some (Sum.inl e)
    | .inr q => xg E fb g q.1 q.2) = _
  rw [h2]
  match f (.inr t) with
  | .inl e => rfl
  | .inr x => rfl
theorem ce_2 {b : Int} (hb : 26 ≤ b ∧ b ≤ 46 ∧ b ≠ 31 ∧ b ≠ 32 ∧ b ≠ 35 ∧ b ≠ 40) (h1 : ce E fb c1 x) (h2 : ce E fb c2 y) : ce E fb (c1 ++ (c2 ++ [b])) (xe2 b x y) := by
  have hf : ∀ e, (fun q => xe2 b q y) (.inl e) = .inl e := fun e => rfl
  refine ce_a (fun q => xe2 b q y) hf h1 (fun t r S => ?_)
  obtain ⟨k2, h2⟩ := h2 ([b] ++ r) (t :: S)
  match y, h2 with
  | .inl e, h2 =>
    refine ⟨k2, fun g => ?_⟩
    rw [List.append_assoc, h2]
    rfl
  | .inr u, h2 =>
    refine ⟨1 + k2, fun g => ?_⟩
    rw [List.append_assoc, ← Nat.add_assoc, h2]
    show (match cx1 E fb b r (u :: t :: S) with
      | .inl e => some (Sum.inl e)
      | .inr q => xg E fb g q.1 q.2) = _
    have e : cx1 E fb b r (u :: t :: S) = x_ps (xe2 b (.inr t) (.inr u)) r S := by
      unfold cx1
      rw [if_neg (by omega), if_neg (by omega), if_neg (by omega), if_neg (by omega), if_neg (by omega), if_neg (by omega), if_neg (by omega), if_neg (by omega), if_neg (by omega), if_neg (by omega)]
      (try dsimp only)
      rw [if_neg (by omega), if_neg (by omega), if_neg (by omega), if_neg (by omega)]
    rw [e]
    show _ = match xe2 b (.inr t) (.inr u) with
      | .inl e => some (Sum.inl e)
      | .inr x => xg E fb g r (x :: S)
    match xe2 b (.inr t) (.inr u) with
    | .inl e => rfl
    | .inr x => rfl
/-- a choice -/
theorem ce_3s (h3 : c3.length + 3 < 65536) (t : Int64) (r : List Int) (S : List Int64) (g : Nat) : xg E fb (g + 1) (lc_ch c2 c3 ++ r) (t :: S) = if t.toInt = 0 then xg E fb g (c3 ++ 47 :: (lc_by c2.length 2 ++ c2) ++ r) S else xg E fb g ((c3 ++ 47 :: (lc_by c2.length 2 ++ c2) ++ r).drop ((c3.length : Int) + 3).toNat) S := by
  have p3 : xb 2 (lc_by (c3.length + 3) 2 ++ (c3 ++ 47 :: (lc_by c2.length 2 ++ c2) ++ r)) = (((c3.length : Int) + 3), c3 ++ 47 :: (lc_by c2.length 2 ++ c2) ++ r) := xb_by _ 2 _ (by omega) (by rw [show (256 : Int) ^ 2 = 65536 by first | decide | (simp; done) | (simp [ms_0]; done)]; omega)
  have e : lc_ch c2 c3 ++ r = 40 :: (lc_by (c3.length + 3) 2 ++ (c3 ++ 47 :: (lc_by c2.length 2 ++ c2) ++ r)) := by
    unfold lc_ch
    rw [List.cons_append, List.append_assoc]
  rw [e]
  show (match cx1 E fb 40 (lc_by (c3.length + 3) 2 ++ (c3 ++ 47 :: (lc_by c2.length 2 ++ c2) ++ r)) (t :: S) with
    | .inl e => some (Sum.inl e)
    | .inr q => xg E fb g q.1 q.2) = _
  unfold cx1
  rw [if_neg (by first | decide | (simp; done) | (simp [ms_0]; done)), if_neg (by first | decide | (simp; done) | (simp [ms_0]; done)), if_neg (by first | decide | (simp; done) | (simp [ms_0]; done)), if_neg (by first | decide | (simp; done) | (simp [ms_0]; done)), if_neg (by first | decide | (simp; done) | (simp [ms_0]; done)), if_neg (by first | decide | (simp; done) | (simp [ms_0]; done)), if_neg (by first | decide | (simp; done) | (simp [ms_0]; done)), if_neg (by first | decide | (simp; done) | (simp [ms_0]; done)), if_neg (by first | decide | (simp; done) | (simp [ms_0]; done)), if_neg (by first | decide | (simp; done) | (simp [ms_0]; done))]
  (try dsimp only)
  rw [if_neg (by first | decide | (simp; done) | (simp [ms_0]; done)), if_neg (by first | decide | (simp; done) | (simp [ms_0]; done)), if_neg (by first | decide | (simp; done) | (simp [ms_0]; done)), if_pos rfl, p3]
  by_cases h : t.toInt = 0
  · rw [if_pos h, if_pos h]
  · rw [if_neg h, if_neg h]
theorem ce_3n {t : Int64} (h3 : c3.length + 3 < 65536) (k1 : ce E fb c1 (.inr t)) (h : ¬ t.toInt = 0) (k2 : ce E fb c2 y) : ce E fb (c1 ++ lc_ch c2 c3) y := by
  intro r S
  obtain ⟨q1, k1⟩ := k1 (lc_ch c2 c3 ++ r) S
  obtain ⟨q2, k2⟩ := k2 r S
  have ed : (c3 ++ 47 :: (lc_by c2.length 2 ++ c2) ++ r).drop ((c3.length : Int) + 3).toNat = c2 ++ r := by
    rw [show ((c3.length : Int) + 3).toNat = c3.length + 3 by omega, List.append_assoc, ← List.drop_drop, List.drop_left]
    rfl
  refine ⟨q2 + 1 + q1, fun g => ?_⟩
  rw [List.append_assoc, show g + (q2 + 1 + q1) = (g + q2 + 1) + q1 by omega, k1]
  show xg E fb (g + q2 + 1) (lc_ch c2 c3 ++ r) (t :: S) = _
  rw [ce_3s h3, if_neg h, ed, k2]
theorem ce_3z {t : Int64} (h2 : c2.length < 65536) (h3 : c3.length + 3 < 65536) (k1 : ce E fb c1 (.inr t)) (h : t.toInt = 0) (k3 : ce E fb c3 z) : ce E fb (c1 ++ lc_ch c2 c3) z := by
  intro r S
  obtain ⟨q1, k1⟩ := k1 (lc_ch c2 c3 ++ r) S
  obtain ⟨q3, k3⟩ := k3 (47 :: (lc_by c2.length 2 ++ c2) ++ r) S
  have e3 : c3 ++ 47 :: (lc_by c2.length 2 ++ c2) ++ r = c3 ++ (47 :: (lc_by c2.length 2 ++ c2) ++ r) := by rw [List.append_assoc]
  match z, k3 with
  | .inl e, k3 =>
    refine ⟨q3 + 1 + q1, fun g => ?_⟩
    rw [List.append_assoc, show g + (q3 + 1 + q1) = (g + q3 + 1) + q1 by omega, k1]
    show xg E fb (g + q3 + 1) (lc_ch c2 c3 ++ r) (t :: S) = _
    rw [ce_3s h3, if_pos h, e3, k3]
  | .inr u, k3 =>
    refine ⟨1 + q3 + 1 + q1, fun g => ?_⟩
    rw [List.append_assoc, show g + (1 + q3 + 1 + q1) = ((g + 1) + q3 + 1) + q1 by omega, k1]
    show xg E fb ((g + 1) + q3 + 1) (lc_ch c2 c3 ++ r) (t :: S) = _
    rw [ce_3s h3, if_pos h, e3, k3]
    show xg E fb (g + 1) (47 :: (lc_by c2.length 2 ++ c2) ++ r) (u :: S) = xg E fb g r (u :: S)
    have p2 : xb 2 (lc_by c2.length 2 ++ c2 ++ r) = ((c2.length : Int), c2 ++ r) := by
      rw [List.append_assoc]
      exact xb_by _ 2 _ (by omega) (by rw [show (256 : Int) ^ 2 = 65536 by first | decide | (simp; done) | (simp [ms_0]; done)]; omega)
    show (match cx1 E fb 47 (lc_by c2.length 2 ++ c2 ++ r) (u :: S) with
      | .inl e => some (Sum.inl e)
      | .inr q => xg E fb g q.1 q.2) = _
    unfold cx1
    rw [if_neg (by first | decide | (simp; done) | (simp [ms_0]; done)), if_neg (by first | decide | (simp; done) | (simp [ms_0]; done)), if_neg (by first | decide | (simp; done) | (simp [ms_0]; done)), if_neg (by first | decide | (simp; done) | (simp [ms_0]; done)), if_neg (by first | decide | (simp; done) | (simp [ms_0]; done)), if_neg (by first | decide | (simp; done) | (simp [ms_0]; done)), if_neg (by first | decide | (simp; done) | (simp [ms_0]; done)), if_neg (by first | decide | (simp; done) | (simp [ms_0]; done)), if_neg (by first | decide | (simp; done) | (simp [ms_0]; done)), if_pos rfl, p2]
    (try dsimp only)
    rw [show ((c2.length : Int)).toNat = c2.length by omega, List.drop_left]
end CE
