section
/-! WHAT CODE MEANS: an evaluator of an expression's bytes without fuel, and how it goes through their parts. -/
def xu : List Int → Int → Int → Int × List Int
  | [], _, a => (a, [])
  | b :: r, m, a => if b < 128 then (a + m * b, r) else xu r (m * 128) (a + m * (b - 128))
def xv : List Int → Int → Int → Int × List Int
  | [], _, a => (a, [])
  | b :: r, m, a => if b < 128 then (a + m * (if 64 ≤ b then b - 128 else b), r) else xv r (m * 128) (a + m * (b - 128))
def xb : Nat → List Int → Int × List Int
  | 0, l => (0, l)
  | _ + 1, [] => (0, [])
  | n + 1, b :: r => (b + 256 * (xb n r).1, (xb n r).2)
theorem xb_by (r : List Int) : ∀ (n : Nat) (v : Int), 0 ≤ v → v < 256 ^ n → xb n (lc_by v n ++ r) = (v, r)
  | 0, v, h0, h1 => by
    rw [Int.pow_zero] at h1
    have e : v = 0 := by omega
    rw [e]
    rfl
  | n + 1, v, h0, h1 => by
    rw [Int.pow_succ] at h1
    have h2 : v / 256 < 256 ^ n := Int.ediv_lt_of_lt_mul (by first | decide | (simp; done) | (simp [ms_0]; done)) h1
    have ih := xb_by r n (v / 256) (by omega) h2
    show (v % 256 + 256 * (xb n (lc_by (v / 256) n ++ r)).1, (xb n (lc_by (v / 256) n ++ r)).2) = (v, r)
    rw [ih]
    (try dsimp only)
    rw [show v % 256 + 256 * (v / 256) = v by omega]
theorem x_ma (m v a : Int) : a + m * (v % 128) + m * 128 * (v / 128) = a + m * v := by
  rw [Int.mul_assoc, Int.add_assoc, ← Int.mul_add, show v % 128 + 128 * (v / 128) = v by omega]
theorem xu_u (r : List Int) : ∀ (n : Nat) (v m a : Int), 0 ≤ v → v < 128 ^ (n + 1) → xu (lc_u n v ++ r) m a = (a + m * v, r)
  | 0, v, m, a, h0, h1 => by
    have h1 : v < 128 := h1
    show (if v < 128 then (a + m * v, r) else _) = _
    rw [if_pos h1]
  | n + 1, v, m, a, h0, h1 => by
    rw [Int.pow_succ] at h1
    unfold lc_u
    by_cases h2 : 127 < v
    · rw [if_pos h2]
      show (if v % 128 + 128 < 128 then _ else xu (lc_u n (v / 128) ++ r) (m * 128) (a + m * (v % 128 + 128 - 128))) = _
      rw [if_neg (by omega), show v % 128 + 128 - 128 = v % 128 by omega, xu_u r n (v / 128) (m * 128) _ (by omega) (Int.ediv_lt_of_lt_mul (by first | decide | (simp; done) | (simp [ms_0]; done)) h1), x_ma]
    · rw [if_neg h2]
      show (if v < 128 then (a + m * v, r) else _) = _
      rw [if_pos (by omega)]
theorem xv_s (r : List Int) : ∀ (n : Nat) (v m a : Int), -(64 * 128 ^ n) ≤ v → v < 64 * 128 ^ n → xv (lc_s n v ++ r) m a = (a + m * v, r)
  | 0, v, m, a, h0, h1 => by
    rw [Int.pow_zero] at h0 h1
    show (if v % 128 < 128 then (a + m * (if 64 ≤ v % 128 then v % 128 - 128 else v % 128), r) else _) = _
    rw [if_pos (by omega)]
    by_cases h2 : 64 ≤ v % 128
    · rw [if_pos h2, show v % 128 - 128 = v by omega]
    · rw [if_neg h2, show v % 128 = v by omega]
  | n + 1, v, m, a, h0, h1 => by
    rw [Int.pow_succ] at h0 h1
    unfold lc_s
    by_cases h2 : v < -64 ∨ 63 < v
    · rw [if_pos h2]
      show (if v % 128 + 128 < 128 then _ else xv (lc_s n (v / 128) ++ r) (m * 128) (a + m * (v % 128 + 128 - 128))) = _
      rw [if_neg (by omega), show v % 128 + 128 - 128 = v % 128 by omega]
      have q0 : -(64 * 128 ^ n) ≤ v / 128 := by
        generalize (128 : Int) ^ n = z at h0 h1 ⊢
        omega
      have q1 : v / 128 < 64 * 128 ^ n := by
        generalize (128 : Int) ^ n = z at h0 h1 ⊢
        omega
      rw [xv_s r n (v / 128) (m * 128) _ q0 q1, x_ma]
    · rw [if_neg h2]
      show (if v % 128 < 128 then (a + m * (if 64 ≤ v % 128 then v % 128 - 128 else v % 128), r) else _) = _
      rw [if_pos (by omega)]
      by_cases h3 : 64 ≤ v % 128
      · rw [if_pos h3, show v % 128 - 128 = v by omega]
      · rw [if_neg h3, show v % 128 = v by omega]
/-- an answer of an expression: a fault, or a number -/
abbrev xX := Int ⊕ Int64
/-- the sign between two -/
def xe2 (op : Int) : xX → xX → xX
  | .inl e, _ => .inl e
  | .inr _, .inl e => .inl e
  | .inr a, .inr b => if (op = 27 ∨ op = 29) ∧ b.toInt = 0 then .inl 6 else .inr (ms_wk op a b)
/-- what stands ahead of one -/
def xe1 (E : ms_E) (c w : Int) : xX → xX
  | .inl e => .inl e
  | .inr t =>
    if c = 6 then (if t.toInt < 0 ∨ 4088 < t.toInt then .inl 5 else .inr (ms_rd E t.toInt.toNat 8))
    else if c = 148 then (if t.toInt < 0 ∨ 4096 - w < t.toInt then .inl 5 else .inr (ms_rd E t.toInt.toNat w.toNat))
    else if c = 155 then (match ms_tl E with
      | none => .inl 11
      | some v => .inr (v + t))
    else if c = 31 then .inr (-t)
    else .inr (t ^^^ (-1 : Int64))
def x_cfa (E : ms_E) : xX := if ms_cr E = -1 then .inl 11 else .inr (ms_rg E (ms_cr E).toNat + ms_co E)
def x_obj (E : ms_E) : xX := match ms_ob E with
  | none => .inl 11
  | some v => .inr v
def x_ad (x : xX) (p : Int) : xX := match x with
  | .inl e => .inl e
  | .inr t => .inr (t + Int64.ofInt p)
def x_ps (x : xX) (r : List Int) (S : List Int64) : Int ⊕ (List Int × List Int64) := match x with
  | .inl e => .inl e
  | .inr t => .inr (r, t :: S)
def cx1 (E : ms_E) (fb : xX) (b : Int) (r : List Int) (S : List Int64) : Int ⊕ (List Int × List Int64) :=
  if 48 ≤ b ∧ b ≤ 79 then .inr (r, Int64.ofInt (b - 48) :: S)
  else if b = 8 then .inr ((xb 1 r).2, Int64.ofInt (xb 1 r).1 :: S)
  else if b = 10 then .inr ((xb 2 r).2, Int64.ofInt (xb 2 r).1 :: S)
  else if b = 12 then .inr ((xb 4 r).2, Int64.ofInt (xb 4 r).1 :: S)
  else if b = 14 then .inr ((xb 8 r).2, Int64.ofInt (xb 8 r).1 :: S)
  else if 112 ≤ b ∧ b ≤ 143 then .inr ((xv r 1 0).2, (ms_rg E (b - 112).toNat + Int64.ofInt (xv r 1 0).1) :: S)
  else if b = 145 then x_ps (x_ad fb (xv r 1 0).1) (xv r 1 0).2 S
  else if b = 156 then x_ps (x_cfa E) r S
  else if b = 151 then x_ps (x_obj E) r S
  else if b = 47 then .inr ((xb 2 r).2.drop (xb 2 r).1.toNat, S)
  else match S with
    | [] => .inl 3
    | t :: R =>
      if b = 148 then (match r with
        | [] => .inl 1
        | w :: r2 => x_ps (xe1 E 148 w (.inr t)) r2 R)
      else if b = 6 ∨ b = 155 ∨ b = 31 ∨ b = 32 then x_ps (xe1 E b 0 (.inr t)) r R
      else if b = 35 then .inr ((xu r 1 0).2, (t + Int64.ofInt (xu r 1 0).1) :: R)
      else if b = 40 then (if t.toInt = 0 then .inr ((xb 2 r).2, R) else .inr ((xb 2 r).2.drop (xb 2 r).1.toNat, R))
      else match R with
        | [] => .inl 3
        | s :: Q => x_ps (xe2 b (.inr s) (.inr t)) r Q
def xg (E : ms_E) (fb : xX) : Nat → List Int → List Int64 → Option (Int ⊕ List Int64)
  | 0, _, _ => none
  | _ + 1, [], S => some (.inr S)
  | g + 1, b :: r, S => match cx1 E fb b r S with
    | .inl e => some (Sum.inl e)
    | .inr q => xg E fb g q.1 q.2
/-- bytes that make one number, or a fault -/
def ce (E : ms_E) (fb : xX) (c : List Int) (v : xX) : Prop := ∀ r S, ∃ k, ∀ g, xg E fb (g + k) (c ++ r) S = match v with
  | .inl e => some (Sum.inl e)
  | .inr x => xg E fb g r (x :: S)
section CE
variable {E : ms_E} {fb : xX} {c c1 c2 c3 : List Int} {v x y z : xX}
theorem ce_u {v2 : xX} (h : ce E fb c v) (h2 : ce E fb c v2) : v = v2 := by
  obtain ⟨k, h⟩ := h [] []
  obtain ⟨k2, h2⟩ := h2 [] []
  have a := h (k2 + 1)
  have b := h2 (k + 1)
  rw [show k2 + 1 + k = k + 1 + k2 by omega] at a
  rw [a] at b
  match v, v2, b with
  | .inl e, .inl e2, b => rw [Sum.inl.inj (Option.some.inj b)]
  | .inl e, .inr x, b =>
    exfalso
    have b : some (Sum.inl e) = some (Sum.inr [x]) := b
    cases b
  | .inr x, .inl e, b =>
    exfalso
    have b : some (Sum.inr [x]) = some (Sum.inl e) := b
    cases b
  | .inr x, .inr y, b =>
    have b : some (Sum.inr [x] : Int ⊕ List Int64) = some (Sum.inr [y]) := b
    have b := (List.cons.inj (Sum.inr.inj (Option.some.inj b))).1
    rw [b]
/-- one operation that takes nothing -/
theorem ce_1 {b : Int} {o : List Int} (h : ∀ r S, cx1 E fb b (o ++ r) S = x_ps v r S) : ce E fb (b :: o) v := by
  intro r S
  refine ⟨1, fun g => ?_⟩
  show (match cx1 E fb b (o ++ r) S with
    | .inl e => some (Sum.inl e)
    | .inr q => xg E fb g q.1 q.2) = _
  rw [h]
  match v with
  | .inl e => rfl
  | .inr x => rfl
/-- something behind it -/
theorem ce_a {o : List Int} (f : xX → xX) (hf : ∀ e, f (.inl e) = .inl e) (h1 : ce E fb c x) (h2 : ∀ t r S, ∃ k, ∀ g, xg E fb (g + k) (o ++ r) (t :: S) = match f (.inr t) with
  | .inl e => some (Sum.inl e)
  | .inr x => xg E fb g r (x :: S)) : ce E fb (c ++ o) (f x) := by
  intro r S
  obtain ⟨k1, h1⟩ := h1 (o ++ r) S
  match x, h1 with
  | .inl e, h1 =>
    refine ⟨k1, fun g => ?_⟩
    rw [List.append_assoc, h1, hf]
  | .inr t, h1 =>
    obtain ⟨k2, h2⟩ := h2 t r S
    refine ⟨k2 + k1, fun g => ?_⟩
    rw [List.append_assoc, ← Nat.add_assoc, h1]
    exact h2 g
theorem ce_o {b : Int} {o : List Int} (f : xX → xX) (hf : ∀ e, f (.inl e) = .inl e) (h1 : ce E fb c x) (h2 : ∀ t r S, cx1 E fb b (o ++ r) (t :: S) = x_ps (f (.inr t)) r S) : ce E fb (c ++ b :: o) (f x) := by
  refine ce_a f hf h1 (fun t r S => ⟨1, fun g => ?_⟩)
  show (match cx1 E fb b (o ++ r) (t :: S) with
    | .inl e => some (Sum.inl e)
    | .inr q => xg E fb g q.1 q.2) = _
  rw [h2]
  match f (.inr t) with
  | .inl e => rfl
  | .inr x => rfl
theorem ce_2 {b : Int} (hb : 26 ≤ b ∧ b ≤ 46 ∧ b ≠ 31 ∧ b ≠ 32 ∧ b ≠ 35 ∧ b ≠ 40) (h1 : ce E fb c1 x) (h2 : ce E fb c2 y) : ce E fb (c1 ++ (c2 ++ [b])) (xe2 b x y) := by
  have hf : ∀ e, (fun q => xe2 b q y) (.inl e) = .inl e := fun e => rfl
  refine ce_a (fun q => xe2 b q y) hf h1 (fun t r S => ?_)
  obtain ⟨k2, h2⟩ := h2 ([b] ++ r) (t :: S)
  match y, h2 with
  | .inl e, h2 =>
    refine ⟨k2, fun g => ?_⟩
    rw [List.append_assoc, h2]
    rfl
  | .inr u, h2 =>
    refine ⟨1 + k2, fun g => ?_⟩
    rw [List.append_assoc, ← Nat.add_assoc, h2]
    show (match cx1 E fb b r (u :: t :: S) with
      | .inl e => some (Sum.inl e)
      | .inr q => xg E fb g q.1 q.2) = _
    have e : cx1 E fb b r (u :: t :: S) = x_ps (xe2 b (.inr t) (.inr u)) r S := by
      unfold cx1
      rw [if_neg (by omega), if_neg (by omega), if_neg (by omega), if_neg (by omega), if_neg (by omega), if_neg (by omega), if_neg (by omega), if_neg (by omega), if_neg (by omega), if_neg (by omega)]
      (try dsimp only)
      rw [if_neg (by omega), if_neg (by omega), if_neg (by omega), if_neg (by omega)]
    rw [e]
    show _ = match xe2 b (.inr t) (.inr u) with
      | .inl e => some (Sum.inl e)
      | .inr x => xg E fb g r (x :: S)
    match xe2 b (.inr t) (.inr u) with
    | .inl e => rfl
    | .inr x => rfl
/-- a choice -/
theorem ce_3s (h3 : c3.length + 3 < 65536) (t : Int64) (r : List Int) (S : List Int64) (g : Nat) : xg E fb (g + 1) (lc_ch c2 c3 ++ r) (t :: S) = if t.toInt = 0 then xg E fb g (c3 ++ 47 :: (lc_by c2.length 2 ++ c2) ++ r) S else xg E fb g ((c3 ++ 47 :: (lc_by c2.length 2 ++ c2) ++ r).drop ((c3.length : Int) + 3).toNat) S := by
  have p3 : xb 2 (lc_by (c3.length + 3) 2 ++ (c3 ++ 47 :: (lc_by c2.length 2 ++ c2) ++ r)) = (((c3.length : Int) + 3), c3 ++ 47 :: (lc_by c2.length 2 ++ c2) ++ r) := xb_by _ 2 _ (by omega) (by rw [show (256 : Int) ^ 2 = 65536 by first | decide | (simp; done) | (simp [ms_0]; done)]; omega)
  have e : lc_ch c2 c3 ++ r = 40 :: (lc_by (c3.length + 3) 2 ++ (c3 ++ 47 :: (lc_by c2.length 2 ++ c2) ++ r)) := by
    unfold lc_ch
    rw [List.cons_append, List.append_assoc]
  rw [e]
  show (match cx1 E fb 40 (lc_by (c3.length + 3) 2 ++ (c3 ++ 47 :: (lc_by c2.length 2 ++ c2) ++ r)) (t :: S) with
    | .inl e => some (Sum.inl e)
    | .inr q => xg E fb g q.1 q.2) = _
  unfold cx1
  rw [if_neg (by first | decide | (simp; done) | (simp [ms_0]; done)), if_neg (by first | decide | (simp; done) | (simp [ms_0]; done)), if_neg (by first | decide | (simp; done) | (simp [ms_0]; done)), if_neg (by first | decide | (simp; done) | (simp [ms_0]; done)), if_neg (by first | decide | (simp; done) | (simp [ms_0]; done)), if_neg (by first | decide | (simp; done) | (simp [ms_0]; done)), if_neg (by first | decide | (simp; done) | (simp [ms_0]; done)), if_neg (by first | decide | (simp; done) | (simp [ms_0]; done)), if_neg (by first | decide | (simp; done) | (simp [ms_0]; done)), if_neg (by first | decide | (simp; done) | (simp [ms_0]; done))]
  (try dsimp only)
  rw [if_neg (by first | decide | (simp; done) | (simp [ms_0]; done)), if_neg (by first | decide | (simp; done) | (simp [ms_0]; done)), if_neg (by first | decide | (simp; done) | (simp [ms_0]; done)), if_pos rfl, p3]
  by_cases h : t.toInt = 0
  · rw [if_pos h, if_pos h]
  · rw [if_neg h, if_neg h]
theorem ce_3n {t : Int64} (h3 : c3.length + 3 < 65536) (k1 : ce E fb c1 (.inr t)) (h : ¬ t.toInt = 0) (k2 : ce E fb c2 y) : ce E fb (c1 ++ lc_ch c2 c3) y := by
  intro r S
  obtain ⟨q1, k1⟩ := k1 (lc_ch c2 c3 ++ r) S
  obtain ⟨q2, k2⟩ := k2 r S
  have ed : (c3 ++ 47 :: (lc_by c2.length 2 ++ c2) ++ r).drop ((c3.length : Int) + 3).toNat = c2 ++ r := by
    rw [show ((c3.length : Int) + 3).toNat = c3.length + 3 by omega, List.append_assoc, ← List.drop_drop, List.drop_left]
    rfl
  refine ⟨q2 + 1 + q1, fun g => ?_⟩
  rw [List.append_assoc, show g + (q2 + 1 + q1) = (g + q2 + 1) + q1 by omega, k1]
  show xg E fb (g + q2 + 1) (lc_ch c2 c3 ++ r) (t :: S) = _
  rw [ce_3s h3, if_neg h, ed, k2]
theorem ce_3z {t : Int64} (h2 : c2.length < 65536) (h3 : c3.length + 3 < 65536) (k1 : ce E fb c1 (.inr t)) (h : t.toInt = 0) (k3 : ce E fb c3 z) : ce E fb (c1 ++ lc_ch c2 c3) z := by
  intro r S
  obtain ⟨q1, k1⟩ := k1 (lc_ch c2 c3 ++ r) S
  obtain ⟨q3, k3⟩ := k3 (47 :: (lc_by c2.length 2 ++ c2) ++ r) S
  have e3 : c3 ++ 47 :: (lc_by c2.length 2 ++ c2) ++ r = c3 ++ (47 :: (lc_by c2.length 2 ++ c2) ++ r) := by rw [List.append_assoc]
  match z, k3 with
  | .inl e, k3 =>
    refine ⟨q3 + 1 + q1, fun g => ?_⟩
    rw [List.append_assoc, show g + (q3 + 1 + q1) = (g + q3 + 1) + q1 by omega, k1]
    show xg E fb (g + q3 + 1) (lc_ch c2 c3 ++ r) (t :: S) = _
    rw [ce_3s h3, if_pos h, e3, k3]
  | .inr u, k3 =>
    refine ⟨1 + q3 + 1 + q1, fun g => ?_⟩
    rw [List.append_assoc, show g + (1 + q3 + 1 + q1) = ((g + 1) + q3 + 1) + q1 by omega, k1]
    show xg E fb ((g + 1) + q3 + 1) (lc_ch c2 c3 ++ r) (t :: S) = _
    rw [ce_3s h3, if_pos h, e3, k3]
    show xg E fb (g + 1) (47 :: (lc_by c2.length 2 ++ c2) ++ r) (u :: S) = xg E fb g r (u :: S)
    have p2 : xb 2 (lc_by c2.length 2 ++ c2 ++ r) = ((c2.length : Int), c2 ++ r) := by
      rw [List.append_assoc]
      exact xb_by _ 2 _ (by omega) (by rw [show (256 : Int) ^ 2 = 65536 by first | decide | (simp; done) | (simp [ms_0]; done)]; omega)
    show (match cx1 E fb 47 (lc_by c2.length 2 ++ c2 ++ r) (u :: S) with
      | .inl e => some (Sum.inl e)
      | .inr q => xg E fb g q.1 q.2) = _
    unfold cx1
    rw [if_neg (by first | decide | (simp; done) | (simp [ms_0]; done)), if_neg (by first | decide | (simp; done) | (simp [ms_0]; done)), if_neg (by first | decide | (simp; done) | (simp [ms_0]; done)), if_neg (by first | decide | (simp; done) | (simp [ms_0]; done)), if_neg (by first | decide | (simp; done) | (simp [ms_0]; done)), if_neg (by first | decide | (simp; done) | (simp [ms_0]; done)), if_neg (by first | decide | (simp; done) | (simp [ms_0]; done)), if_neg (by first | decide | (simp; done) | (simp [ms_0]; done)), if_neg (by first | decide | (simp; done) | (simp [ms_0]; done)), if_pos rfl, p2]
    (try dsimp only)
    rw [show ((c2.length : Int)).toNat = c2.length by omega, List.drop_left]
end CE
end
section
/-! WHAT CODE MEANS: the operations. -/
section CE2
variable {E : ms_E} {fb : xX} {c : List Int} {x : xX}
theorem ce_c {v : Int} (h0 : 0 ≤ v) (h1 : v ≤ 999999999999999999) : ce E fb (lc_c v) (.inr (Int64.ofInt v)) := by
  unfold lc_c
  by_cases a1 : v ≤ 31
  · rw [if_pos a1]
    refine ce_1 (o := []) (fun r S => ?_)
    show cx1 E fb (48 + v) r S = _
    unfold cx1
    rw [if_pos (by omega), show 48 + v - 48 = v by omega]
    rfl
  rw [if_neg a1]
  by_cases a2 : v ≤ 255
  · rw [if_pos a2]
    refine ce_1 (fun r S => ?_)
    unfold cx1
    rw [if_neg (by first | decide | (simp; done) | (simp [ms_0]; done)), if_pos rfl, xb_by r 1 v h0 (by rw [show (256 : Int) ^ 1 = 256 by first | decide | (simp; done) | (simp [ms_0]; done)]; omega)]
    rfl
  rw [if_neg a2]
  by_cases a3 : v ≤ 65535
  · rw [if_pos a3]
    refine ce_1 (fun r S => ?_)
    unfold cx1
    rw [if_neg (by first | decide | (simp; done) | (simp [ms_0]; done)), if_neg (by first | decide | (simp; done) | (simp [ms_0]; done)), if_pos rfl, xb_by r 2 v h0 (by rw [show (256 : Int) ^ 2 = 65536 by first | decide | (simp; done) | (simp [ms_0]; done)]; omega)]
    rfl
  rw [if_neg a3]
  by_cases a4 : v ≤ 4294967295
  · rw [if_pos a4]
    refine ce_1 (fun r S => ?_)
    unfold cx1
    rw [if_neg (by first | decide | (simp; done) | (simp [ms_0]; done)), if_neg (by first | decide | (simp; done) | (simp [ms_0]; done)), if_neg (by first | decide | (simp; done) | (simp [ms_0]; done)), if_pos rfl, xb_by r 4 v h0 (by rw [show (256 : Int) ^ 4 = 4294967296 by first | decide | (simp; done) | (simp [ms_0]; done)]; omega)]
    rfl
  · rw [if_neg a4]
    refine ce_1 (fun r S => ?_)
    unfold cx1
    rw [if_neg (by first | decide | (simp; done) | (simp [ms_0]; done)), if_neg (by first | decide | (simp; done) | (simp [ms_0]; done)), if_neg (by first | decide | (simp; done) | (simp [ms_0]; done)), if_neg (by first | decide | (simp; done) | (simp [ms_0]; done)), if_pos rfl, xb_by r 8 v h0 (by rw [show (256 : Int) ^ 8 = 18446744073709551616 by first | decide | (simp; done) | (simp [ms_0]; done)]; omega)]
    rfl
theorem xv_9 {p : Int} (h : -999999999999999999 ≤ p ∧ p ≤ 999999999999999999) (r : List Int) : xv (lc_s 9 p ++ r) 1 0 = (p, r) := by
  have e : (128 : Int) ^ 9 = 9223372036854775808 := by first | decide | (simp; done) | (simp [ms_0]; done)
  rw [xv_s r 9 p 1 0 (by rw [e]; omega) (by rw [e]; omega), show (0 : Int) + 1 * p = p by omega]
theorem xu_9 {p : Int} (h : 0 ≤ p ∧ p ≤ 999999999999999999) (r : List Int) : xu (lc_u 9 p ++ r) 1 0 = (p, r) := by
  have e : (128 : Int) ^ (9 + 1) = 1180591620717411303424 := by first | decide | (simp; done) | (simp [ms_0]; done)
  rw [xu_u r 9 p 1 0 h.1 (by rw [e]; omega), show (0 : Int) + 1 * p = p by omega]
theorem ce_rg {k p : Int} (hk : 0 ≤ k ∧ k ≤ 31) (h : -999999999999999999 ≤ p ∧ p ≤ 999999999999999999) : ce E fb ((112 + k) :: lc_s 9 p) (x_ad (.inr (ms_rg E k.toNat)) p) := by
  refine ce_1 (fun r S => ?_)
  unfold cx1
  rw [if_neg (by omega), if_neg (by omega), if_neg (by omega), if_neg (by omega), if_neg (by omega), if_pos (by omega), xv_9 h, show 112 + k - 112 = k by omega]
  rfl
theorem ce_fb {p : Int} (h : -999999999999999999 ≤ p ∧ p ≤ 999999999999999999) : ce E fb (145 :: lc_s 9 p) (x_ad fb p) := by
  refine ce_1 (fun r S => ?_)
  unfold cx1
  rw [if_neg (by first | decide | (simp; done) | (simp [ms_0]; done)), if_neg (by first | decide | (simp; done) | (simp [ms_0]; done)), if_neg (by first | decide | (simp; done) | (simp [ms_0]; done)), if_neg (by first | decide | (simp; done) | (simp [ms_0]; done)), if_neg (by first | decide | (simp; done) | (simp [ms_0]; done)), if_neg (by first | decide | (simp; done) | (simp [ms_0]; done)), if_pos rfl, xv_9 h]
theorem ce_cf : ce E fb [156] (x_cfa E) := by
  refine ce_1 (o := []) (fun r S => ?_)
  show cx1 E fb 156 r S = _
  unfold cx1
  rw [if_neg (by first | decide | (simp; done) | (simp [ms_0]; done)), if_neg (by first | decide | (simp; done) | (simp [ms_0]; done)), if_neg (by first | decide | (simp; done) | (simp [ms_0]; done)), if_neg (by first | decide | (simp; done) | (simp [ms_0]; done)), if_neg (by first | decide | (simp; done) | (simp [ms_0]; done)), if_neg (by first | decide | (simp; done) | (simp [ms_0]; done)), if_neg (by first | decide | (simp; done) | (simp [ms_0]; done)), if_pos rfl]
theorem ce_ob : ce E fb [151] (x_obj E) := by
  refine ce_1 (o := []) (fun r S => ?_)
  show cx1 E fb 151 r S = _
  unfold cx1
  rw [if_neg (by first | decide | (simp; done) | (simp [ms_0]; done)), if_neg (by first | decide | (simp; done) | (simp [ms_0]; done)), if_neg (by first | decide | (simp; done) | (simp [ms_0]; done)), if_neg (by first | decide | (simp; done) | (simp [ms_0]; done)), if_neg (by first | decide | (simp; done) | (simp [ms_0]; done)), if_neg (by first | decide | (simp; done) | (simp [ms_0]; done)), if_neg (by first | decide | (simp; done) | (simp [ms_0]; done)), if_neg (by first | decide | (simp; done) | (simp [ms_0]; done)), if_pos rfl]
theorem ce_un {b : Int} (hb : b = 6 ∨ b = 155 ∨ b = 31 ∨ b = 32) (h : ce E fb c x) : ce E fb (c ++ [b]) (xe1 E b 0 x) := by
  refine ce_o (o := []) (xe1 E b 0) (fun e => rfl) h (fun t r S => ?_)
  show cx1 E fb b r (t :: S) = _
  unfold cx1
  rw [if_neg (by omega), if_neg (by omega), if_neg (by omega), if_neg (by omega), if_neg (by omega), if_neg (by omega), if_neg (by omega), if_neg (by omega), if_neg (by omega), if_neg (by omega)]
  (try dsimp only)
  rw [if_neg (by omega), if_pos hb]
theorem ce_rd {w : Int} (h : ce E fb c x) : ce E fb (c ++ [148, w]) (xe1 E 148 w x) := by
  refine ce_o (o := [w]) (xe1 E 148 w) (fun e => rfl) h (fun t r S => ?_)
  show cx1 E fb 148 (w :: r) (t :: S) = _
  unfold cx1
  rw [if_neg (by first | decide | (simp; done) | (simp [ms_0]; done)), if_neg (by first | decide | (simp; done) | (simp [ms_0]; done)), if_neg (by first | decide | (simp; done) | (simp [ms_0]; done)), if_neg (by first | decide | (simp; done) | (simp [ms_0]; done)), if_neg (by first | decide | (simp; done) | (simp [ms_0]; done)), if_neg (by first | decide | (simp; done) | (simp [ms_0]; done)), if_neg (by first | decide | (simp; done) | (simp [ms_0]; done)), if_neg (by first | decide | (simp; done) | (simp [ms_0]; done)), if_neg (by first | decide | (simp; done) | (simp [ms_0]; done)), if_neg (by first | decide | (simp; done) | (simp [ms_0]; done))]
  (try dsimp only)
  rw [if_pos rfl]
theorem ce_35 {w : Int} (hw : 0 ≤ w ∧ w ≤ 999999999999999999) (h : ce E fb c x) : ce E fb (c ++ 35 :: lc_u 9 w) (x_ad x w) := by
  refine ce_o (fun q => x_ad q w) (fun e => rfl) h (fun t r S => ?_)
  unfold cx1
  rw [if_neg (by first | decide | (simp; done) | (simp [ms_0]; done)), if_neg (by first | decide | (simp; done) | (simp [ms_0]; done)), if_neg (by first | decide | (simp; done) | (simp [ms_0]; done)), if_neg (by first | decide | (simp; done) | (simp [ms_0]; done)), if_neg (by first | decide | (simp; done) | (simp [ms_0]; done)), if_neg (by first | decide | (simp; done) | (simp [ms_0]; done)), if_neg (by first | decide | (simp; done) | (simp [ms_0]; done)), if_neg (by first | decide | (simp; done) | (simp [ms_0]; done)), if_neg (by first | decide | (simp; done) | (simp [ms_0]; done)), if_neg (by first | decide | (simp; done) | (simp [ms_0]; done))]
  (try dsimp only)
  rw [if_neg (by first | decide | (simp; done) | (simp [ms_0]; done)), if_neg (by first | decide | (simp; done) | (simp [ms_0]; done)), if_pos rfl, xu_9 hw]
  rfl
end CE2
end
section
/-! THE CLASS'S MEANINGS of expressions. -/
section CBZ
variable {n sl : Nat} {SH : Nat → Nat × Nat} {FI F1 : Nat → Nat → Int32} {FL L1 : Nat → Nat → Int64} {FR R1 : Nat → Nat → Option Nat} {o f : Nat} {a3 a4 v c : Int32} {st : hS} {E : ms_E}
theorem c_bas2 {a1 a2 : Int32} (hS : h_S n SH) (ht : th FR ∧ thI FR) (hE : cE FI FL FR SH E) (u1 : a1.toInt - a2.toInt = f) (u2 : 0 ≤ a2.toInt) (u3 : a1.toInt ≤ 1000) (h4 : a3.toInt = o) (ho8 : o ≤ 8) (h : RX9_base a1 a2 a3 n sl SH FI FL FR v st) : (ms_fr E = -1 ∧ v.toInt = 11 ∧ st = (n, sl, SH, FI, FL, FR)) ∨ (ms_fr E ≠ -1 ∧ ∃ q, ms_R E 1 o (ms_ex E (ms_fr E).toNat) 0 f ([], ms_0, []) q ∧ ∃ F2 L2 R2, st = (n, sl, SH, F2, L2, R2) ∧ kz FI FL FR F2 L2 R2 ∧ match q with
    | .inl e => v.toInt = e ∧ e ≠ 0
    | .inr y => (∃ e, ms_bs E y.2 = .inl e ∧ v.toInt = e ∧ e ≠ 0) ∨ (∃ b, ms_bs E y.2 = .inr b ∧ v.toInt = 0 ∧ L2 48 15 = b)) := by
  have hr := rg_of hS
  obtain ⟨f1, f2, f3⟩ := hE.2.2.2.1
  have h := P_n h (fun e => by cases e)
  rw [f1, show (Int32.ofNat (SH 26).2).toInt = 16 by rw [hS.2 26 (by first | decide | (simp; done) | (simp [ms_0]; done))]; decide +kernel] at h
  rcases h with ⟨h0, e1, e⟩ | ⟨h0, h⟩
  · exact Or.inl ⟨by omega, by rw [e1]; (first | decide | (simp; done) | (simp [ms_0]; done)), e⟩
  refine Or.inr ⟨by omega, ?_⟩
  have h := P_p h (by omega)
  obtain ⟨-, u3', n3, sl3, SH3, FI3, FL3, FR3, hrs, c5, ec5, v5, n5, sl5, SH5, FI5, FL5, FR5, hpf, h⟩ := h
  obtain ⟨F3, L3, e3, k3, v3, w3⟩ := c_resetI (f := f) hS ht.2 u1 u2 u3 hrs
  cases e3
  have E3 := cE_kI hE hr k3
  obtain ⟨r2, x1, x2, x3, x4⟩ := E3.2.2.1 (ms_fr E).toNat (by omega)
  have efr : (FI 23 4).toInt.toNat = (ms_fr E).toNat := by rw [f1]
  try rw [efr] at ec5
  try rw [efr] at hpf
  rw [x1] at ec5 hpf
  cases ec5
  obtain ⟨g, hpf⟩ := hpf
  obtain ⟨q, hq, hcx⟩ := c_runI hS g _ 0 o f (ms_ex E (ms_fr E).toNat) ([], ms_0, []) _ _ _ v5 FI3 FL3 FR _ ht.2 E3 x4 (by omega) (by omega) (by first | decide | (simp; done) | (simp [ms_0]; done)) (by rw [x2, i_lit (by omega)]; omega) h4 ho8 v3 w3 hpf
  refine ⟨q, hq, ?_⟩
  -- behind the inner run
  have t88 : ∀ {F4 : Nat → Nat → Int32} {L4 : Nat → Nat → Int64} {R4 : Nat → Nat → Option Nat} {w : Int32}, w.toInt ≠ 0 → kzI FI FL FR F4 L4 R4 → RX9_base_88 a1 a2 a3 w n sl SH F4 L4 R4 v st → v = w ∧ ∃ F2 L2 R2, st = (n, sl, SH, F2, L2, R2) ∧ kz FI FL FR F2 L2 R2 := by
    intro F4 L4 R4 w hw k4 h
    have h := P_n h hw
    exact ⟨h.1, _, _, _, h.2, kz_i (kz_i (kI_k k4) (by first | decide | (simp; done) | (simp [ms_0]; done))) (by first | decide | (simp; done) | (simp [ms_0]; done))⟩
  match q, hq, hcx with
  | .inl e9, hq, ⟨y1, y2, F4, L4, R4, y3, y4⟩ =>
    cases y3
    have h := P_n h (by rw [y1]; exact y2)
    obtain ⟨z1, F2, L2, R2, z2, z3⟩ := t88 (by rw [y1]; exact y2) (kzI_tr k3 y4) h
    exact ⟨F2, L2, R2, z2, z3, by rw [z1]; exact y1, y2⟩
  | .inr y, hq, ⟨y1, F4, L4, R4, y3, y4, y5, y6, y7, y8⟩ =>
    cases y3
    have h := P_p h y1
    obtain ⟨v7, n7, sl7, SH7, FI7, FL7, FR7, hse, h⟩ := h
    have k5 := kzI_tr k3 y4
    have tI5 : thI FR5 := thI_k (thI_k ht.2 k3) y4
    obtain ⟨F6, L6, R6, z1, z2, z3, z4⟩ := c_settleI hS tI5 y5 hse
    cases z1
    have k7 := kzI_tr k5 z2
    have tI7 : thI FR7 := thI_k tI5 z2
    have hh1 : y.2.2.1.1 ≠ 1 := (ms_hz (fun k hk => by obtain ⟨rr, -, -, zz, -⟩ := hE.2.2.1 k hk; exact zz) f3 hq x3 sz_0).1.1
    rcases z4 with ⟨m1, m2, m3⟩ | ⟨m1, m2, m3, m4, m5, m6⟩ | ⟨m1, m3, m4, m5⟩
    · obtain ⟨p1, F2, L2, R2, p2, p3⟩ := t88 (by rw [m3]; (first | decide | (simp; done) | (simp [ms_0]; done))) k7 h
      exact ⟨F2, L2, R2, p2, p3, Or.inl ⟨13, by unfold ms_bs; rw [if_pos m1, if_pos m2], by rw [p1]; exact m3, by first | decide | (simp; done) | (simp [ms_0]; done)⟩⟩
    all_goals
      have h := P_p h m3
      obtain ⟨w8, n8, sl8, SH8, FI8, FL8, FR8, htb, e8, e⟩ := h
      obtain ⟨c1, ec1, w9, n9, sl9, SH9, FI9, FL9, FR9, ⟨c2, ec2, -, ev9, e9⟩, c3, ec3, htb⟩ := htb
      cases ec1
      cases ec3
      cases e9
      rw [tI7.1] at ec2
      cases ec2
      rw [tI7.2 0 (by first | decide | (simp; done) | (simp [ms_0]; done))] at ev9
      subst ev9
    · -- pieces: no base
      have hp : 0 < (FI7 52 1).toInt := by
        rw [m4, y5.2.2.2.2.1]
        cases hy : y.2.2.2 with
        | nil => exact absurd hy m1
        | cons a b => simp only [List.length_cons]; omega
      have htb := P_p htb (by rw [h_up_nc (by first | decide | (simp; done) | (simp [ms_0]; done)), h_up_nc (by first | decide | (simp; done) | (simp [ms_0]; done))]; exact hp)
      rw [htb.2] at e
      exact ⟨_, _, _, e, kz_i (kz_i (kI_k k7) (by first | decide | (simp; done) | (simp [ms_0]; done))) (by first | decide | (simp; done) | (simp [ms_0]; done)), Or.inl ⟨11, by unfold ms_bs; rw [if_pos m1, if_neg m2], by rw [e8, htb.1]; (first | decide | (simp; done) | (simp [ms_0]; done)), by first | decide | (simp; done) | (simp [ms_0]; done)⟩⟩
    · have hp : ¬ 0 < (FI7 52 1).toInt := by omega
      have htb := P_n htb (by rw [h_up_nc (by first | decide | (simp; done) | (simp [ms_0]; done)), h_up_nc (by first | decide | (simp; done) | (simp [ms_0]; done))]; exact hp)
      have hb := bs_tg (E := E) m1 y5.2.2.2.1.1.2.2.1 hh1
      obtain ⟨t1, t2, t3, t4⟩ := m5.1
      have kzf : kz FI FL FR (h_up (h_up FI7 48 7 (FI7 49 7)) 48 8 (fJ9_max_7cf53 (FI7 48 8) (FI7 49 8) SH (h_up FI7 48 7 (FI7 49 7)) FL7 FR7)) FL7 FR7 := kz_i (kz_i (kI_k k7) (by first | decide | (simp; done) | (simp [ms_0]; done))) (by first | decide | (simp; done) | (simp [ms_0]; done))
      have r54 : ∀ k, (h_up (h_up FI7 48 7 (FI7 49 7)) 48 8 (fJ9_max_7cf53 (FI7 48 8) (FI7 49 8) SH (h_up FI7 48 7 (FI7 49 7)) FL7 FR7)) 54 k = FI7 54 k := fun k => by rw [h_up_nc (by first | decide | (simp; done) | (simp [ms_0]; done)), h_up_nc (by first | decide | (simp; done) | (simp [ms_0]; done))]
      have E7 : cE (h_up (h_up FI7 48 7 (FI7 49 7)) 48 8 (fJ9_max_7cf53 (FI7 48 8) (FI7 49 8) SH (h_up FI7 48 7 (FI7 49 7)) FL7 FR7)) FL7 FR7 SH E := cE_k hE hr kzf
      generalize h_up (h_up FI7 48 7 (FI7 49 7)) 48 8 (fJ9_max_7cf53 (FI7 48 8) (FI7 49 8) SH (h_up FI7 48 7 (FI7 49 7)) FL7 FR7) = FF at htb e8 e kzf r54 E7
      obtain ⟨d1, ed1, htb⟩ := htb
      cases ed1
      rw [r54, t1] at htb
      rcases htb with ⟨i0, i1, i2⟩ | ⟨i0, htb⟩
      · rw [i2] at e
        refine ⟨_, _, _, e, kzf, Or.inl ⟨11, ?_, by rw [e8, i1]; (first | decide | (simp; done) | (simp [ms_0]; done)), by first | decide | (simp; done) | (simp [ms_0]; done)⟩⟩
        rw [hb, if_neg (fun e9 => by rw [i0] at e9; exact absurd e9 (by decide)), if_pos (Or.inl i0)]
      obtain ⟨d1, ed1, htb⟩ := htb
      cases ed1
      rw [r54, t1, show ((4 : Int32)).toInt = 4 by first | decide | (simp; done) | (simp [ms_0]; done)] at htb
      rcases htb with ⟨i4, i1, i2⟩ | ⟨i4, htb⟩
      · rw [i2] at e
        refine ⟨_, _, _, e, kzf, Or.inl ⟨11, ?_, by rw [e8, i1]; (first | decide | (simp; done) | (simp [ms_0]; done)), by first | decide | (simp; done) | (simp [ms_0]; done)⟩⟩
        rw [hb, if_neg (fun e9 => by rw [i4] at e9; exact absurd e9 (by decide)), if_pos (Or.inr i4)]
      obtain ⟨d1, ed1, htb⟩ := htb
      cases ed1
      rw [r54, t1, show ((2 : Int32)).toInt = 2 by first | decide | (simp; done) | (simp [ms_0]; done)] at htb
      have done : ∀ {b : Int64}, ms_bs E y.2 = .inr b → w8 = 0 → (n8, sl8, SH8, FI8, FL8, FR8) = (n, sl, SH, FF, h_up FL7 48 15 b, FR7) → ∃ F2 L2 R2, st = (n, sl, SH, F2, L2, R2) ∧ kz FI FL FR F2 L2 R2 ∧ ((∃ e, ms_bs E y.2 = .inl e ∧ v.toInt = e ∧ e ≠ 0) ∨ (∃ b, ms_bs E y.2 = .inr b ∧ v.toInt = 0 ∧ L2 48 15 = b)) := by
        intro b j1 j2 j3
        rw [j3] at e
        exact ⟨_, _, _, e, kz_l kzf (by first | decide | (simp; done) | (simp [ms_0]; done)), Or.inr ⟨b, j1, by rw [e8, j2]; (first | decide | (simp; done) | (simp [ms_0]; done)), h_up_eq⟩⟩
      rcases htb with ⟨i2, htb⟩ | ⟨i2, htb⟩
      · obtain ⟨d1, ed1, i1, i3⟩ := htb
        cases ed1
        have k2 : 0 ≤ (ms_tg y.2).2.1.toInt ∧ (ms_tg y.2).2.1.toInt ≤ 31 := by
          rcases t3 with q | q | q | q | q
          · exfalso; have := q.1; omega
          · exfalso; have := q.1; omega
          · exact q.2.2
          · exfalso; have := q.1; omega
          · exfalso; have := q.1; omega
        rw [t2, c_reg hS E7 k2.1 k2.2] at i3
        exact done (by rw [hb, if_pos i2]) i1 i3
      · obtain ⟨d1, ed1, i1, i3⟩ := htb
        cases ed1
        rw [t2] at i3
        exact done (by rw [hb, if_neg i2, if_neg (fun e => e.elim i0 i4)]) i1 i3
end CBZ
/-- what FRAME's base is, for means -/
def x_fb (E : ms_E) (fb : xX) : Prop := (ms_fr E = -1 → fb = .inl 11) ∧ (ms_fr E ≠ -1 → ∀ q, ms_R E 1 0 (ms_ex E (ms_fr E).toNat) 0 1000 ([], ms_0, []) q → fb = match q with
  | .inl e => .inl e
  | .inr y => ms_bs E y.2)
theorem n_nx_ag3 {FI F2 : Nat → Nat → Int32} {FL L2 : Nat → Nat → Int64} {FR R2 : Nat → Nat → Option Nat} {c : Nat} (h : ∀ c, 176 ≤ c → F2 c = FI c ∧ L2 c = FL c ∧ R2 c = FR c) (hc : 176 ≤ c) : n_nx F2 L2 R2 c = n_nx FI FL FR c := by
  unfold n_nx
  rw [(h c hc).1, (h c hc).2.2]
  by_cases h1 : (FI c 0).toInt = 37 ∨ (FI c 0).toInt = 11
  · rw [if_pos h1, if_pos h1]
    cases FR c 6 with
    | none => rfl
    | some e =>
      (try dsimp only)
      by_cases he : 176 ≤ e
      · rw [(h e he).1, (h e he).2.1]
      · rw [if_neg (fun x => he x.1), if_neg (fun x => he x.1)]
  · rw [if_neg h1, if_neg h1]
theorem n_cd_ag3 {FI F2 : Nat → Nat → Int32} {FL L2 : Nat → Nat → Int64} {FR R2 : Nat → Nat → Option Nat} (h : ∀ c, 176 ≤ c → F2 c = FI c ∧ L2 c = FL c ∧ R2 c = FR c) : ∀ (f m : Nat) (o : Option Nat) (d : Int), n_cd F2 L2 R2 f m o d = n_cd FI FL FR f m o d := by
  intro f
  induction f with
  | zero => intro m o d; rfl
  | succ f ih =>
    intro m o d
    cases o with
    | none => rfl
    | some c =>
      show n_st F2 L2 R2 (n_cd F2 L2 R2 f) m c d = n_st FI FL FR (n_cd FI FL FR f) m c d
      have e : n_cd F2 L2 R2 f = n_cd FI FL FR f := by
        funext m o d
        exact ih m o d
      rw [e]
      unfold n_st
      by_cases hc : c < 176
      · rw [if_pos (Or.inl hc), if_pos (Or.inl hc)]
      · rw [n_nx_ag3 h (by omega), (h c (by omega)).1, (h c (by omega)).2.1, (h c (by omega)).2.2]
        cases hn : n_nx FI FL FR c with
        | none => rfl
        | some e =>
          (try dsimp only)
          rw [(h e (n_nx_ge hn)).1, (h e (n_nx_ge hn)).2.1, (h e (n_nx_ge hn)).2.2]
theorem n_op_ok (k : Int) : 26 ≤ n_op k ∧ n_op k ≤ 46 ∧ n_op k ≠ 31 ∧ n_op k ≠ 32 ∧ n_op k ≠ 35 ∧ n_op k ≠ 40 := by
  unfold n_op
  repeat' split
  all_goals omega
/-- what a sign ahead of one does -/
def xun (E : ms_E) (k w : Int) (x : xX) : xX := if k = 6 then (if w = 8 then xe1 E 6 0 x else xe1 E 148 w x) else if k = 14 then xe1 E 155 0 x else if k = 45 then xe1 E 31 0 x else if k = 126 then xe1 E 32 0 x else x
theorem xun_f {E : ms_E} {k w e : Int} : xun E k w (.inl e) = .inl e := by
  unfold xun
  repeat' split
  all_goals rfl
theorem ce_xun {E : ms_E} {fb x : xX} {c : List Int} {k w : Int} (h : ce E fb c x) : ce E fb (c ++ n_un k w) (xun E k w x) := by
  unfold n_un xun
  by_cases k6 : k = 6
  · rw [if_pos k6, if_pos k6]
    by_cases w8 : w = 8
    · rw [if_pos w8, if_pos w8]
      exact ce_un (Or.inl rfl) h
    · rw [if_neg w8, if_neg w8]
      exact ce_rd h
  rw [if_neg k6, if_neg k6]
  by_cases k14 : k = 14
  · rw [if_pos k14, if_pos k14]
    exact ce_un (by first | decide | (simp; done) | (simp [ms_0]; done)) h
  rw [if_neg k14, if_neg k14]
  by_cases k45 : k = 45
  · rw [if_pos k45, if_pos k45]
    exact ce_un (by first | decide | (simp; done) | (simp [ms_0]; done)) h
  rw [if_neg k45, if_neg k45]
  by_cases k9 : k = 126
  · rw [if_pos k9, if_pos k9]
    exact ce_un (by first | decide | (simp; done) | (simp [ms_0]; done)) h
  · rw [if_neg k9, if_neg k9, List.append_nil]
    exact h
/-- what meanings leave alone -/
def vk (FI : Nat → Nat → Int32) (FL : Nat → Nat → Int64) (FR : Nat → Nat → Option Nat) (F2 : Nat → Nat → Int32) (L2 : Nat → Nat → Int64) (R2 : Nat → Nat → Option Nat) : Prop := (∀ c, (c < 48 ∨ 90 < c) → F2 c = FI c ∧ L2 c = FL c ∧ R2 c = FR c) ∧ (∀ k, k ≠ 4 → F2 90 k = FI 90 k) ∧ L2 90 = FL 90 ∧ R2 90 = FR 90 ∧ th R2 ∧ thI R2
/-- the answer of an expression in the class -/
def vx (n sl : Nat) (SH : Nat → Nat × Nat) (FI : Nat → Nat → Int32) (FL : Nat → Nat → Int64) (FR : Nat → Nat → Option Nat) (v : Int64) (st : hS) (x : xX) : Prop := ∃ F2 L2 R2, st = (n, sl, SH, F2, L2, R2) ∧ vk FI FL FR F2 L2 R2 ∧ match x with
  | .inl e => (F2 90 4).toInt = e ∧ e ≠ 0
  | .inr t => v = t ∧ (F2 90 4).toInt = 0
section CVV
variable {n sl : Nat} {SH : Nat → Nat × Nat} {FI F2 F3 : Nat → Nat → Int32} {FL L2 L3 : Nat → Nat → Int64} {FR R2 R3 : Nat → Nat → Option Nat} {v : Int64} {st : hS} {E : ms_E} {fb x : xX}
theorem vk_rf (ht : th FR ∧ thI FR) : vk FI FL FR FI FL FR := ⟨fun _ _ => ⟨rfl, rfl, rfl⟩, fun _ _ => rfl, rfl, rfl, ht⟩
theorem vk_tr (h : vk FI FL FR F2 L2 R2) (g : vk F2 L2 R2 F3 L3 R3) : vk FI FL FR F3 L3 R3 := ⟨fun c hc => ⟨(g.1 c hc).1.trans (h.1 c hc).1, (g.1 c hc).2.1.trans (h.1 c hc).2.1, (g.1 c hc).2.2.trans (h.1 c hc).2.2⟩, fun k hk => (g.2.1 k hk).trans (h.2.1 k hk), g.2.2.1.trans h.2.2.1, g.2.2.2.1.trans h.2.2.2.1, g.2.2.2.2⟩
theorem vk_kz (ht : th FR ∧ thI FR) (h : kz FI FL FR F2 L2 R2) : vk FI FL FR F2 L2 R2 := ⟨fun c hc => h.1 c (by omega), fun k _ => by rw [(h.1 90 (by omega)).1], (h.1 90 (by omega)).2.1, (h.1 90 (by omega)).2.2, th_kI ht h⟩
theorem vk_dyn (h : vk FI FL FR F2 L2 R2) : ∀ c, 176 ≤ c → F2 c = FI c ∧ L2 c = FL c ∧ R2 c = FR c := fun c hc => h.1 c (by omega)
theorem rg_t : rg SH := fun r hr => by
  have := hr.2
  omega
theorem cE_vk (hE : cE FI FL FR SH E) (h : vk FI FL FR F2 L2 R2) : cE F2 L2 R2 SH E := cE_fr hE rg_t (fun c hc => h.1 c (by omega))
theorem vx_up (h : vk FI FL FR F2 L2 R2) (g : vx n sl SH F2 L2 R2 v st x) : vx n sl SH FI FL FR v st x := by
  obtain ⟨F3, L3, R3, e, k, m⟩ := g
  exact ⟨F3, L3, R3, e, vk_tr h k, m⟩
theorem c_fail {a1 : Int32} {e : Int} (ht : th FR ∧ thI FR) (h0 : (FI 90 4).toInt = 0) (ha : a1.toInt = e) (he : e ≠ 0) (h : RX2_fail a1 n sl SH FI FL FR v st) : ∃ F2, st = (n, sl, SH, F2, FL, FR) ∧ vk FI FL FR F2 FL FR ∧ (F2 90 4).toInt = e := by
  have h := P_p h h0
  exact ⟨_, h.2, ⟨fun c hc => ⟨h_up_nc (by omega), rfl, rfl⟩, fun k hk => h_up_ne hk, rfl, rfl, ht⟩, by rw [h_up_eq]; exact ha⟩
theorem c_failx {a1 : Int32} {e : Int} (ht : th FR ∧ thI FR) (h0 : (FI 90 4).toInt = 0) (ha : a1.toInt = e) (he : e ≠ 0) (h : P_bi (RX2_fail a1 n sl SH FI FL FR) (fun v9 n9 sl9 SH9 FI9 FL9 FR9 => P_ret v9 (n9, sl9, SH9, FI9, FL9, FR9)) v st) : vx n sl SH FI FL FR v st (.inl e) := by
  obtain ⟨v9, n9, sl9, SH9, FI9, FL9, FR9, hf, e1, e2⟩ := h
  obtain ⟨F2, y1, y2, y3⟩ := c_fail ht h0 ha he hf
  cases y1
  exact ⟨_, _, _, e2, y2, y3, he⟩
theorem vx_ret {t : Int64} (ht : th FR ∧ thI FR) (h0 : (FI 90 4).toInt = 0) (h : P_ret t (n, sl, SH, FI, FL, FR) v st) : vx n sl SH FI FL FR v st (.inr t) := ⟨_, _, _, h.2, vk_rf ht, h.1, h0⟩
/-- what stands ahead of one -/
theorem c_unary {c : Nat} {t : Int64} (hS : h_S n SH) (hE : cE FI FL FR SH E) (ht : th FR ∧ thI FR) (h0 : (FI 90 4).toInt = 0) (hw : (FI c 0).toInt = 6 → 1 ≤ (FL c 1).toInt ∧ (FL c 1).toInt ≤ 8) (h : RX2_unaryValue (some c) t n sl SH FI FL FR v st) : vx n sl SH FI FL FR v st (xun E (FI c 0).toInt (FL c 1).toInt (.inr t)) := by
  obtain ⟨c1, e1, h⟩ := h
  cases e1
  unfold xun
  rcases h with ⟨k6, h⟩ | ⟨k6, h⟩
  · have k6 : (FI c 0).toInt = 6 := k6
    rw [if_pos k6]
    obtain ⟨w1, w2⟩ := hw k6
    obtain ⟨c3, e3, h⟩ := h
    cases e3
    have ew : ((FL c 1).toInt32).toInt = (((FL c 1).toInt.toNat : Nat) : Int) := by rw [l_2i (A := (FL c 1).toInt) rfl (by omega) (by omega)]; omega
    have hh := c_has (x := t) (FI := FI) (FL := FL) (FR := FR) hS ew (by omega)
    have e148 : (if (FL c 1).toInt = 8 then xe1 E 6 0 (.inr t) else xe1 E 148 (FL c 1).toInt (.inr t)) = (if t.toInt < 0 ∨ 4096 - (FL c 1).toInt < t.toInt then .inl 5 else .inr (ms_rd E t.toInt.toNat (FL c 1).toInt.toNat) : xX) := by
      by_cases h8 : (FL c 1).toInt = 8
      · rw [if_pos h8, h8]
        rfl
      · rw [if_neg h8]
        rfl
    rw [e148]
    rcases h with ⟨k5, h⟩ | ⟨k5, h⟩
    · have q := hh.mp k5
      rw [if_pos (by omega)]
      exact c_failx ht h0 (by first | decide | (simp; done) | (simp [ms_0]; done)) (by first | decide | (simp; done) | (simp [ms_0]; done)) h
    · have q : ¬ (t.toInt < 0 ∨ 4096 - (((FL c 1).toInt.toNat : Nat) : Int) < t.toInt) := fun e => k5 (hh.mpr e)
      rw [if_neg (by omega)]
      obtain ⟨v9, n9, sl9, SH9, FI9, FL9, FR9, hb, h9⟩ := h
      obtain ⟨y1, y2⟩ := c_bytes hS hE ew (by omega) (by omega) (by omega) hb
      cases y2
      rw [y1] at h9
      exact vx_ret ht h0 h9
  have k6 : ¬ (FI c 0).toInt = 6 := k6
  rw [if_neg k6]
  rcases h with ⟨k14, h⟩ | ⟨k14, h⟩
  · have k14 : (FI c 0).toInt = 14 := k14
    rw [if_pos k14]
    show vx n sl SH FI FL FR v st (match ms_tl E with
      | none => .inl 11
      | some v => .inr (v + t))
    rcases hE.2.2.2.2.2.2.2 with ⟨q1, q2⟩ | ⟨q1, q2⟩
    · rw [q2]
      exact c_failx ht h0 (by first | decide | (simp; done) | (simp [ms_0]; done)) (by first | decide | (simp; done) | (simp [ms_0]; done)) (P_p h q1)
    · rw [q2]
      exact vx_ret ht h0 (P_n h q1)
  have k14 : ¬ (FI c 0).toInt = 14 := k14
  rw [if_neg k14]
  rcases h with ⟨k45, h⟩ | ⟨k45, h⟩
  · have k45 : (FI c 0).toInt = 45 := k45
    rw [if_pos k45]
    exact vx_ret ht h0 h
  have k45 : ¬ (FI c 0).toInt = 45 := k45
  rw [if_neg k45]
  rcases h with ⟨k9, h⟩ | ⟨k9, h⟩
  · have k9 : (FI c 0).toInt = 126 := k9
    rw [if_pos k9]
    exact vx_ret ht h0 h
  · have k9 : ¬ (FI c 0).toInt = 126 := k9
    rw [if_neg k9]
    exact vx_ret ht h0 h
/-- behind a fault nothing happens -/
theorem c_fail_f {a1 : Int32} (h0 : (FI 90 4).toInt ≠ 0) (h : RX2_fail a1 n sl SH FI FL FR v st) : st = (n, sl, SH, FI, FL, FR) := (P_n h h0).2
theorem c_unary_f {c : Nat} {t : Int64} (hS : h_S n SH) (hE : cE FI FL FR SH E) (h0 : (FI 90 4).toInt ≠ 0) (hw : (FI c 0).toInt = 6 → 1 ≤ (FL c 1).toInt ∧ (FL c 1).toInt ≤ 8) (h : RX2_unaryValue (some c) t n sl SH FI FL FR v st) : st = (n, sl, SH, FI, FL, FR) := by
  obtain ⟨c1, e1, h⟩ := h
  cases e1
  rcases h with ⟨k6, h⟩ | ⟨k6, h⟩
  · have k6 : (FI c 0).toInt = 6 := k6
    obtain ⟨w1, w2⟩ := hw k6
    obtain ⟨c3, e3, h⟩ := h
    cases e3
    have ew : ((FL c 1).toInt32).toInt = (((FL c 1).toInt.toNat : Nat) : Int) := by rw [l_2i (A := (FL c 1).toInt) rfl (by omega) (by omega)]; omega
    have hh := c_has (x := t) (FI := FI) (FL := FL) (FR := FR) hS ew (by omega)
    rcases h with ⟨k5, h⟩ | ⟨k5, h⟩
    · obtain ⟨v9, n9, sl9, SH9, FI9, FL9, FR9, hb, -, h9⟩ := h
      rw [h9]
      exact c_fail_f h0 hb
    · have q : ¬ (t.toInt < 0 ∨ 4096 - (((FL c 1).toInt.toNat : Nat) : Int) < t.toInt) := fun e => k5 (hh.mpr e)
      obtain ⟨v9, n9, sl9, SH9, FI9, FL9, FR9, hb, -, h9⟩ := h
      rw [h9]
      exact (c_bytes hS hE ew (by omega) (by omega) (by omega) hb).2
  rcases h with ⟨k14, h⟩ | ⟨k14, h⟩
  · rcases h with ⟨-, h⟩ | ⟨-, h⟩
    · obtain ⟨v9, n9, sl9, SH9, FI9, FL9, FR9, hb, -, h9⟩ := h
      rw [h9]
      exact c_fail_f h0 hb
    · exact h.2
  rcases h with ⟨k45, h⟩ | ⟨k45, h⟩
  · exact h.2
  rcases h with ⟨k9, h⟩ | ⟨k9, h⟩
  · exact h.2
  · exact h.2
theorem c_value_f {g : Nat} {o : Option Nat} {a2 : Int32} (h0 : (FI 90 4).toInt ≠ 0) (h : QX2 g 0 o a2 n sl SH FI FL FR v st) : st = (n, sl, SH, FI, FL, FR) := by
  cases g with
  | zero => exact h.elim
  | succ g =>
    rcases h with ⟨-, h⟩ | ⟨-, h⟩
    · exact h.2
    · exact (P_n h h0).2
/-- FRAME's base -/
theorem c_fbx (hS : h_S n SH) (hE : cE FI FL FR SH E) (ht : th FR ∧ thI FR) (h0 : (FI 90 4).toInt = 0) (hf : x_fb E fb) (h : P_bi (RX9_base ((1000 : Int32)) ((0 : Int32)) ((0 : Int32)) n sl SH FI FL FR) (fun v7 n7 sl7 SH7 FI7 FL7 FR7 => P_if (v7.toInt = 0) (P_ret (FL7 48 15) (n7, sl7, SH7, FI7, FL7, FR7)) (P_bi (RX2_fail v7 n7 sl7 SH7 FI7 FL7 FR7) (fun v9 n9 sl9 SH9 FI9 FL9 FR9 => P_ret v9 (n9, sl9, SH9, FI9, FL9, FR9)))) v st) : vx n sl SH FI FL FR v st fb := by
  obtain ⟨v7, n7, sl7, SH7, FI7, FL7, FR7, hb, h⟩ := h
  rcases c_bas2 (o := 0) (f := 1000) hS ht hE (by first | decide | (simp; done) | (simp [ms_0]; done)) (by first | decide | (simp; done) | (simp [ms_0]; done)) (by first | decide | (simp; done) | (simp [ms_0]; done)) (by first | decide | (simp; done) | (simp [ms_0]; done)) (by first | decide | (simp; done) | (simp [ms_0]; done)) hb with ⟨q1, q2, q3⟩ | ⟨q1, q, hq, F2, L2, R2, e2, k2, m⟩
  · cases q3
    rw [hf.1 q1]
    exact c_failx ht h0 q2 (by first | decide | (simp; done) | (simp [ms_0]; done)) (P_n h (by rw [q2]; (first | decide | (simp; done) | (simp [ms_0]; done))))
  · cases e2
    have hx := hf.2 q1 q hq
    have kk := vk_kz ht k2
    have h07 : (FI7 90 4).toInt = 0 := by rw [(k2.1 90 (by omega)).1]; exact h0
    match q, hx, m with
    | .inl e, hx, ⟨m1, m2⟩ =>
      rw [hx]
      exact vx_up kk (c_failx kk.2.2.2.2 h07 m1 m2 (P_n h (by rw [m1]; exact m2)))
    | .inr y, hx, Or.inl ⟨e, m1, m2, m3⟩ =>
      rw [hx]
      (try dsimp only)
      rw [m1]
      exact vx_up kk (c_failx kk.2.2.2.2 h07 m2 m3 (P_n h (by rw [m2]; exact m3)))
    | .inr y, hx, Or.inr ⟨b, m1, m2, m3⟩ =>
      rw [hx]
      (try dsimp only)
      rw [m1]
      have h := P_p h m2
      rw [m3] at h
      exact vx_up kk (vx_ret kk.2.2.2.2 h07 h)
end CVV
end
section
/-! THE CLASS'S MEANINGS of expressions: its trees. -/
theorem ce_ft {E : ms_E} {fb : xX} {c r : List Int} {e : Int} (h : ce E fb c (.inl e)) : ce E fb (c ++ r) (.inl e) := by
  intro r2 S
  obtain ⟨k, h⟩ := h (r ++ r2) S
  exact ⟨k, fun g => by rw [List.append_assoc]; exact h g⟩
theorem l_oi (x : Int64) : Int64.ofInt x.toInt = x := Int64.ofInt_toInt x
theorem xad_p {s t : Int64} : x_ad (.inr s) t.toInt = .inr (ms_wk 34 s t) := by
  show Sum.inr (s + Int64.ofInt t.toInt) = _
  rw [l_oi]
  rfl
theorem xad_m {s t : Int64} : x_ad (.inr s) (-t.toInt) = .inr (ms_wk 28 s t) := by
  show Sum.inr (s + Int64.ofInt (-t.toInt)) = _
  rw [Int64.ofInt_neg, l_oi, ← Int64.sub_eq_add_neg]
  rfl
theorem n_nx_is {FI : Nat → Nat → Int32} {FL : Nat → Nat → Int64} {FR : Nat → Nat → Option Nat} {c e : Nat} (h : n_nx FI FL FR c = some e) : ((FI c 0).toInt = 37 ∨ (FI c 0).toInt = 11) ∧ FR c 6 = some e ∧ 176 ≤ e ∧ (FI e 0).toInt = 5 ∧ ((FI e 2).toInt = 43 ∨ (FI e 2).toInt = 45) ∧ n_rg (FI e 0).toInt (FL e 1).toInt = true := by
  unfold n_nx at h
  by_cases h1 : (FI c 0).toInt = 37 ∨ (FI c 0).toInt = 11
  · rw [if_pos h1] at h
    cases h6 : FR c 6 with
    | none => rw [h6] at h; cases h
    | some e2 =>
      rw [h6] at h
      (try dsimp only at h)
      by_cases h2 : 176 ≤ e2 ∧ (FI e2 0).toInt = 5 ∧ ((FI e2 2).toInt = 43 ∨ (FI e2 2).toInt = 45) ∧ n_rg (FI e2 0).toInt (FL e2 1).toInt = true
      · rw [if_pos h2] at h
        cases h
        exact ⟨h1, rfl, h2⟩
      · rw [if_neg h2] at h
        cases h
  · rw [if_neg h1] at h
    cases h
section CVT
variable {n sl : Nat} {SH : Nat → Nat × Nat} {E : ms_E} {fb : xX}
def v_P0 (n sl : Nat) (SH : Nat → Nat × Nat) (E : ms_E) (fb : xX) (f : Nat) : Prop := ∀ (g : Nat) (o : Option Nat) (a2 : Int32) (d : Int) (FI : Nat → Nat → Int32) (FL : Nat → Nat → Int64) (FR : Nat → Nat → Option Nat) (v : Int64) (st : hS) (code : List Int), QX2 g 0 o a2 n sl SH FI FL FR v st → a2.toInt = d → 0 ≤ d → d ≤ 121 → n_cd FI FL FR f 0 o d = some code → code.length ≤ 60000 → (FI 90 4).toInt = 0 → th FR ∧ thI FR → cE FI FL FR SH E → ∃ x, ce E fb code x ∧ vx n sl SH FI FL FR v st x
def v_P1 (n sl : Nat) (SH : Nat → Nat × Nat) (E : ms_E) (fb : xX) (f : Nat) : Prop := ∀ (g gl : Nat) (o a1 : Option Nat) (a2 : Int32) (d : Int) (FI : Nat → Nat → Int32) (FL : Nat → Nat → Int64) (FR : Nat → Nat → Option Nat) (v l3 : Int64) (st : hS) (c0 r : List Int), GX2_chainValue_30 (fun a1 a2 n sl SH FI FL FR => QX2 g 0 a1 a2 n sl SH FI FL FR) (fun a1 a2 n sl SH FI FL FR => QX2 g 1 a1 a2 n sl SH FI FL FR) a1 a2 gl l3 o n sl SH FI FL FR v st → a2.toInt = d → 0 ≤ d → d ≤ 119 → n_cd FI FL FR f 1 o d = some r → (c0 ++ r).length ≤ 60000 → ce E fb c0 (.inr l3) → (FI 90 4).toInt = 0 → th FR ∧ thI FR → cE FI FL FR SH E → ∃ x, ce E fb (c0 ++ r) x ∧ vx n sl SH FI FL FR v st x
def v_P2 (n sl : Nat) (SH : Nat → Nat × Nat) (E : ms_E) (fb : xX) (f : Nat) : Prop := ∀ (g c : Nat) (a2 : Int32) (d : Int) (FI : Nat → Nat → Int32) (FL : Nat → Nat → Int64) (FR : Nat → Nat → Option Nat) (v : Int64) (st : hS) (code : List Int), RX2_chainValue (fun a1 a2 n sl SH FI FL FR => QX2 g 0 a1 a2 n sl SH FI FL FR) (fun a1 a2 n sl SH FI FL FR => QX2 g 1 a1 a2 n sl SH FI FL FR) (some c) a2 n sl SH FI FL FR v st → a2.toInt = d → 0 ≤ d → d ≤ 119 → 176 ≤ c → n_cd FI FL FR f 2 (FR c 3) d = some code → code.length ≤ 60000 → (FI 90 4).toInt = 0 → th FR ∧ thI FR → cE FI FL FR SH E → ∃ x, ce E fb code x ∧ vx n sl SH FI FL FR v st x
/-- the loop behind a fault -/
theorem c_30_f {g gl : Nat} {o a1 : Option Nat} {a2 : Int32} {FI : Nat → Nat → Int32} {FL : Nat → Nat → Int64} {FR : Nat → Nat → Option Nat} {v l3 : Int64} {st : hS} (h0 : (FI 90 4).toInt ≠ 0) (h : GX2_chainValue_30 (fun a1 a2 n sl SH FI FL FR => QX2 g 0 a1 a2 n sl SH FI FL FR) (fun a1 a2 n sl SH FI FL FR => QX2 g 1 a1 a2 n sl SH FI FL FR) a1 a2 gl l3 o n sl SH FI FL FR v st) : st = (n, sl, SH, FI, FL, FR) := by
  cases gl with
  | zero => exact h.elim
  | succ gl =>
    rcases h with ⟨-, h⟩ | ⟨-, h⟩
    · exact h.2
    · exact (P_n h h0).2
theorem c_val (hS : h_S n SH) (hf : x_fb E fb) : ∀ f : Nat, v_P0 n sl SH E fb f ∧ v_P1 n sl SH E fb f ∧ v_P2 n sl SH E fb f := by
  have c120 : ((120 : Int32)).toInt = 120 := by first | decide | (simp; done) | (simp [ms_0]; done)
  intro f
  induction f with
  | zero =>
    refine ⟨?_, ?_, ?_⟩
    · intro g o a2 d FI FL FR v st code _ _ _ _ hA; cases hA
    · intro g gl o a1 a2 d FI FL FR v l3 st c0 r _ _ _ _ hA; cases hA
    · intro g c a2 d FI FL FR v st code _ _ _ _ _ hA; cases hA
  | succ f ih =>
    obtain ⟨i0, i1, i2⟩ := ih
    refine ⟨?_, ?_, ?_⟩
    · -- a node
      intro g o a2 d FI FL FR v st code h hd h0 h1 hA hl hz ht hE
      cases g with
      | zero => exact h.elim
      | succ g =>
        rcases h with ⟨k1, -⟩ | ⟨k1, h⟩
        · subst k1
          have hA : (none : Option (List Int)) = some code := hA
          cases hA
        cases o with
        | none => exact absurd rfl k1
        | some c =>
          have ok := n_cd_ok hA
          have hg : ((FI c 0).toInt = 5 → 0 ≤ (FL c 1).toInt ∧ (FL c 1).toInt ≤ 999999999999999999) ∧ ((FI c 0).toInt = 37 → 0 ≤ (FL c 1).toInt ∧ (FL c 1).toInt ≤ 31) ∧ ((FI c 0).toInt = 6 → 1 ≤ (FL c 1).toInt ∧ (FL c 1).toInt ≤ 8) := of_decide_eq_true ok.2
          have hA2 : n_st FI FL FR (n_cd FI FL FR f) 0 c d = some code := hA
          unfold n_st at hA2
          rw [if_neg (by rw [ok.2]; simp; omega), if_pos rfl] at hA2
          have h := P_p h hz
          rcases h with ⟨k2, -⟩ | ⟨k2, h⟩
          · rw [c120, hd] at k2
            rw [if_pos k2] at hA2
            cases hA2
          rw [c120, hd] at k2
          rw [if_neg k2] at hA2
          have hd1 : (a2 + (1 : Int32)).toInt = d + 1 := i_add hd (by first | decide | (simp; done) | (simp [ms_0]; done) : ((1 : Int32)).toInt = 1) (by omega) (by omega)
          obtain ⟨c4, e4, h⟩ := h
          cases e4
          rcases h with ⟨k5, h⟩ | ⟨k5, h⟩
          · have k5 : (FI c 0).toInt = 5 := k5
            rw [if_pos k5] at hA2
            obtain ⟨c6, e6, h⟩ := h
            cases e6
            rw [← Option.some.inj hA2]
            refine ⟨_, ce_c (hg.1 k5).1 (hg.1 k5).2, ?_⟩
            rw [l_oi]
            exact vx_ret ht hz h
          have k5 : ¬ (FI c 0).toInt = 5 := k5
          rw [if_neg k5] at hA2
          rcases h with ⟨k11, h⟩ | ⟨k11, h⟩
          · have k11 : (FI c 0).toInt = 11 := k11
            rw [if_pos (Or.inl k11)] at hA2
            have e : (145 : Int) :: lc_s 9 0 = code := by
              have := Option.some.inj hA2
              unfold n_bs at this
              rw [if_neg (by omega)] at this
              exact this
            rw [← e]
            have q : ce E fb (145 :: lc_s 9 0) (x_ad fb 0) := ce_fb (by first | decide | (simp; done) | (simp [ms_0]; done))
            have q2 : x_ad fb 0 = fb := by
              match fb with
              | .inl e => rfl
              | .inr t =>
                show Sum.inr (t + Int64.ofInt 0) = _
                rw [show Int64.ofInt 0 = 0 by first | decide | (simp; done) | (simp [ms_0]; done), Int64.add_zero]
            rw [q2] at q
            exact ⟨fb, q, c_fbx hS hE ht hz hf h⟩
          have k11 : ¬ (FI c 0).toInt = 11 := k11
          rcases h with ⟨k12, h⟩ | ⟨k12, h⟩
          · have k12 : (FI c 0).toInt = 12 := k12
            rw [if_neg (by omega), if_pos k12] at hA2
            rw [← Option.some.inj hA2]
            refine ⟨_, ce_cf, ?_⟩
            unfold x_cfa
            obtain ⟨q1, q2, q3⟩ := hE.2.2.2.2.1
            rcases h with ⟨k, h⟩ | ⟨k, h⟩
            · rw [q1, show ((-1 : Int32)).toInt = -1 by first | decide | (simp; done) | (simp [ms_0]; done)] at k
              rw [if_pos k]
              exact c_failx ht hz (by first | decide | (simp; done) | (simp [ms_0]; done)) (by first | decide | (simp; done) | (simp [ms_0]; done)) h
            · rw [q1, show ((-1 : Int32)).toInt = -1 by first | decide | (simp; done) | (simp [ms_0]; done)] at k
              rw [if_neg k]
              have ev : fX1_cfaValue SH FI FL FR = ms_rg E (ms_cr E).toNat + ms_co E := by
                have e5 : ((FI 23 5).toInt64).toInt = ms_cr E := i_2l q1
                unfold fX1_cfaValue
                rw [c_reg hS hE (by rw [e5]; omega) (by rw [e5]; omega), e5, hE.2.2.2.2.2.1]
              rw [← ev]
              exact vx_ret ht hz h
          have k12 : ¬ (FI c 0).toInt = 12 := k12
          rcases h with ⟨k13, h⟩ | ⟨k13, h⟩
          · have k13 : (FI c 0).toInt = 13 := k13
            rw [if_neg (by omega), if_neg k12, if_pos k13] at hA2
            rw [← Option.some.inj hA2]
            refine ⟨_, ce_ob, ?_⟩
            unfold x_obj
            rcases hE.2.2.2.2.2.2.1 with ⟨q1, q2⟩ | ⟨q1, q2⟩
            · rw [q2]
              exact c_failx ht hz (by first | decide | (simp; done) | (simp [ms_0]; done)) (by first | decide | (simp; done) | (simp [ms_0]; done)) (P_p h q1)
            · rw [q2]
              exact vx_ret ht hz (P_n h q1)
          have k13 : ¬ (FI c 0).toInt = 13 := k13
          rcases h with ⟨k25, h⟩ | ⟨k25, h⟩
          · have k25 : (FI c 0).toInt = 25 := k25
            rw [if_neg (by omega), if_neg k12, if_neg k13, if_pos k25] at hA2
            by_cases hq : 120 ≤ d
            · rw [if_pos hq] at hA2; cases hA2
            rw [if_neg hq] at hA2
            obtain ⟨v9, n9, sl9, SH9, FI9, FL9, FR9, hc, e1, e2⟩ := h
            cases g with
            | zero => exact hc.elim
            | succ g =>
              obtain ⟨x, x1, x2⟩ := i2 g c a2 d FI FL FR v9 _ code hc hd h0 (by omega) ok.1 hA2 hl hz ht hE
              rw [e1, e2]
              exact ⟨x, x1, x2⟩
          have k25 : ¬ (FI c 0).toInt = 25 := k25
          rcases h with ⟨k37, h⟩ | ⟨k37, h⟩
          · have k37 : (FI c 0).toInt = 37 := k37
            rw [if_pos (Or.inr k37)] at hA2
            obtain ⟨c6, e6, h⟩ := h
            cases e6
            have e : (112 + (FL c 1).toInt) :: lc_s 9 0 = code := by
              have := Option.some.inj hA2
              unfold n_bs at this
              rw [if_pos k37] at this
              exact this
            rw [← e]
            refine ⟨_, ce_rg (hg.2.1 k37) (by first | decide | (simp; done) | (simp [ms_0]; done)), ?_⟩
            have q2 : x_ad (.inr (ms_rg E (FL c 1).toInt.toNat)) 0 = .inr (ms_rg E (FL c 1).toInt.toNat) := by
              show Sum.inr (ms_rg E (FL c 1).toInt.toNat + Int64.ofInt 0) = _
              rw [show Int64.ofInt 0 = 0 by first | decide | (simp; done) | (simp [ms_0]; done), Int64.add_zero]
            rw [q2, ← c_reg hS hE (hg.2.1 k37).1 (hg.2.1 k37).2]
            exact vx_ret ht hz h
          have k37 : ¬ (FI c 0).toInt = 37 := k37
          rcases h with ⟨k63, h⟩ | ⟨k63, h⟩
          · have k63 : (FI c 0).toInt = 63 := k63
            rw [if_neg (by omega), if_neg k12, if_neg k13, if_neg k25, if_pos k63] at hA2
            obtain ⟨A1, A2, p1, p2, p3⟩ := o2_some hA2
            obtain ⟨A3, A4, p4, p5, p6⟩ := o2_some p2
            rw [← p3, ← p6] at hl ⊢
            have ll : A1.length ≤ 60000 ∧ A3.length ≤ 60000 ∧ A4.length ≤ 60000 - 3 := by
              rw [List.length_append] at hl
              unfold lc_ch at hl
              simp only [List.length_cons, List.length_append] at hl
              have b1 : (lc_by (↑A4.length + 3) 2).length = 2 := rfl
              have b2 : (lc_by (↑A3.length) 2).length = 2 := rfl
              omega
            obtain ⟨c24, e24, v24, n24, sl24, SH24, FI24, FL24, FR24, hc, h⟩ := h
            cases e24
            obtain ⟨x, x1, F2, L2, R2, y1, y2, y3⟩ := i0 g _ _ (d + 1) FI FL FR v24 _ A1 hc hd1 (by omega) (by omega) p1 ll.1 hz ht hE
            cases y1
            have dy := vk_dyn y2
            have er : FR24 c = FR c := (dy c ok.1).2.2
            match x, x1, y3 with
            | .inl e9, x1, ⟨z1, z2⟩ =>
              refine ⟨.inl e9, ce_ft x1, ?_⟩
              have hz9 : (FI24 90 4).toInt ≠ 0 := by rw [z1]; exact z2
              rcases h with ⟨-, h⟩ | ⟨-, h⟩
              · obtain ⟨c27, e27, v27, n27, sl27, SH27, FI27, FL27, FR27, hv, -, e2⟩ := h
                have := c_value_f hz9 hv
                cases this
                exact ⟨_, _, _, e2, y2, z1, z2⟩
              · obtain ⟨c27, e27, v27, n27, sl27, SH27, FI27, FL27, FR27, hv, -, e2⟩ := h
                have := c_value_f hz9 hv
                cases this
                exact ⟨_, _, _, e2, y2, z1, z2⟩
            | .inr t, x1, ⟨z1, z2⟩ =>
              rw [z1] at h
              have E2 := cE_vk hE y2
              rcases h with ⟨kt, h⟩ | ⟨kt, h⟩
              · rw [show ((0 : Int64)).toInt = 0 by first | decide | (simp; done) | (simp [ms_0]; done)] at kt
                obtain ⟨c27, e27, v27, n27, sl27, SH27, FI27, FL27, FR27, hv, e1, e2⟩ := h
                cases e27
                rw [er] at hv
                obtain ⟨w, w1, w2⟩ := i0 g _ _ (d + 1) FI24 FL24 FR24 v27 _ A4 hv hd1 (by omega) (by omega) ((n_cd_ag3 dy _ _ _ _).trans p5) (by omega) z2 y2.2.2.2.2 E2
                rw [e1, e2]
                exact ⟨w, ce_3z (by omega) (by omega) x1 kt w1, vx_up y2 w2⟩
              · rw [show ((0 : Int64)).toInt = 0 by first | decide | (simp; done) | (simp [ms_0]; done)] at kt
                obtain ⟨c27, e27, v27, n27, sl27, SH27, FI27, FL27, FR27, hv, e1, e2⟩ := h
                cases e27
                rw [er] at hv
                obtain ⟨w, w1, w2⟩ := i0 g _ _ (d + 1) FI24 FL24 FR24 v27 _ A3 hv hd1 (by omega) (by omega) ((n_cd_ag3 dy _ _ _ _).trans p4) (by omega) z2 y2.2.2.2.2 E2
                rw [e1, e2]
                exact ⟨w, ce_3n (by omega) x1 kt w1, vx_up y2 w2⟩
          have k63 : ¬ (FI c 0).toInt = 63 := k63
          rw [if_neg (by omega), if_neg k12, if_neg k13, if_neg k25, if_neg k63] at hA2
          obtain ⟨A1, p1, p3⟩ := om_some hA2
          rw [← p3] at hl ⊢
          rw [List.length_append] at hl
          obtain ⟨c31, e31, v31, n31, sl31, SH31, FI31, FL31, FR31, hc, v32, n32, sl32, SH32, FI32, FL32, FR32, hu, e1, e2⟩ := h
          cases e31
          obtain ⟨x, x1, F2, L2, R2, y1, y2, y3⟩ := i0 g _ _ (d + 1) FI FL FR v31 _ A1 hc hd1 (by omega) (by omega) p1 (by omega) hz ht hE
          cases y1
          have dy := vk_dyn y2 c ok.1
          have E2 := cE_vk hE y2
          have hw : (FI31 c 0).toInt = 6 → 1 ≤ (FL31 c 1).toInt ∧ (FL31 c 1).toInt ≤ 8 := by rw [dy.1, dy.2.1]; exact hg.2.2
          rw [e1, e2]
          match x, x1, y3 with
          | .inl e9, x1, ⟨z1, z2⟩ =>
            refine ⟨.inl e9, ce_ft x1, ?_⟩
            have := c_unary_f hS E2 (by rw [z1]; exact z2) hw hu
            cases this
            exact ⟨_, _, _, rfl, y2, z1, z2⟩
          | .inr t, x1, ⟨z1, z2⟩ =>
            have q := c_unary hS E2 y2.2.2.2.2 z2 hw hu
            rw [z1, dy.1, dy.2.1] at q
            exact ⟨_, ce_xun x1, vx_up y2 q⟩
    · -- the rest of a chain
      intro g gl o a1 a2 d FI FL FR v l3 st c0 r h hd h0 h1 hA hl hc0 hz ht hE
      cases gl with
      | zero => exact h.elim
      | succ gl =>
        rcases h with ⟨k1, h⟩ | ⟨k1, h⟩
        · subst k1
          have e : ([] : List Int) = r := Option.some.inj hA
          rw [← e, List.append_nil]
          exact ⟨_, hc0, vx_ret ht hz h⟩
        cases o with
        | none => exact absurd rfl k1
        | some c =>
          have ok := n_cd_ok hA
          have hg : ((FI c 0).toInt = 5 → 0 ≤ (FL c 1).toInt ∧ (FL c 1).toInt ≤ 999999999999999999) ∧ ((FI c 0).toInt = 37 → 0 ≤ (FL c 1).toInt ∧ (FL c 1).toInt ≤ 31) ∧ ((FI c 0).toInt = 6 → 1 ≤ (FL c 1).toInt ∧ (FL c 1).toInt ≤ 8) := of_decide_eq_true ok.2
          have hd1 : (a2 + (1 : Int32)).toInt = d + 1 := i_add hd (by first | decide | (simp; done) | (simp [ms_0]; done) : ((1 : Int32)).toInt = 1) (by omega) (by omega)
          have hA2 : n_st FI FL FR (n_cd FI FL FR f) 1 c d = some r := hA
          unfold n_st at hA2
          rw [if_neg (by rw [ok.2]; simp; omega), if_neg (by first | decide | (simp; done) | (simp [ms_0]; done)), if_pos rfl] at hA2
          have h := P_p h hz
          obtain ⟨v2, n2, sl2, SH2, FI2, FL2, FR2, hc, c4, e4, h⟩ := h
          cases e4
          -- what comes behind the term: its bytes A, its value
          have fin : ∀ (A R : List Int), n_cd FI FL FR f 1 (FR c 6) d = some R → r = A ++ R → (∀ {F2 : Nat → Nat → Int32} {L2 : Nat → Nat → Int64} {R2 : Nat → Nat → Option Nat}, (n2, sl2, SH2, FI2, FL2, FR2) = (n, sl, SH, F2, L2, R2) → vk FI FL FR F2 L2 R2 → ((∃ e, (F2 90 4).toInt = e ∧ e ≠ 0 ∧ ce E fb (c0 ++ A) (.inl e)) ∨ (∃ t, v2 = t ∧ (F2 90 4).toInt = 0 ∧ ce E fb (c0 ++ A) (xe2 (n_op (FI c 2).toInt) (.inr l3) (.inr t)))) → ∃ x, ce E fb (c0 ++ r) x ∧ vx n sl SH FI FL FR v st x) := by
            intro A R hR er F2 L2 R2 y1 y2 y3
            cases y1
            have dy := vk_dyn y2
            have E2 := cE_vk hE y2
            have eo : (fX4_operationOf (FI2 c 2) SH FI2 FL2 FR2).toInt = n_op (FI c 2).toInt := by rw [c_op, (dy c ok.1).1]
            have eR : n_cd FI2 FL2 FR2 f 1 (FR2 c 6) d = some R := by rw [(dy c ok.1).2.2]; exact (n_cd_ag3 dy _ _ _ _).trans hR
            have hl2 : (c0 ++ A ++ R).length ≤ 60000 := by rw [er, ← List.append_assoc] at hl; exact hl
            rw [er, ← List.append_assoc]
            rcases y3 with ⟨e9, z1, z2, z3⟩ | ⟨t, z1, z2, z3⟩
            · -- a fault: nothing more happens
              have hz9 : (FI2 90 4).toInt ≠ 0 := by rw [z1]; exact z2
              have go : ∀ {s0 : Int64}, RX2_chainValue_101 (GX2_chainValue_30 (fun a1 a2 n sl SH FI FL FR => QX2 g 0 a1 a2 n sl SH FI FL FR) (fun a1 a2 n sl SH FI FL FR => QX2 g 1 a1 a2 n sl SH FI FL FR) a1 a2 gl) (fun a1 a2 n sl SH FI FL FR => QX2 g 0 a1 a2 n sl SH FI FL FR) (fun a1 a2 n sl SH FI FL FR => QX2 g 1 a1 a2 n sl SH FI FL FR) a1 a2 (some c) s0 n sl SH FI2 FL2 FR2 v st → ∃ x, ce E fb (c0 ++ A ++ R) x ∧ vx n sl SH FI FL FR v st x := by
                intro s0 h
                obtain ⟨c5, e5, h⟩ := h
                have := c_30_f hz9 h
                exact ⟨.inl e9, ce_ft z3, _, _, _, this, y2, z1, z2⟩
              have go77 : RX2_chainValue_77 (GX2_chainValue_30 (fun a1 a2 n sl SH FI FL FR => QX2 g 0 a1 a2 n sl SH FI FL FR) (fun a1 a2 n sl SH FI FL FR => QX2 g 1 a1 a2 n sl SH FI FL FR) a1 a2 gl) (fun a1 a2 n sl SH FI FL FR => QX2 g 0 a1 a2 n sl SH FI FL FR) (fun a1 a2 n sl SH FI FL FR => QX2 g 1 a1 a2 n sl SH FI FL FR) a1 a2 l3 (some c) v2 (fX4_operationOf (FI2 c 2) SH FI2 FL2 FR2) n sl SH FI2 FL2 FR2 v st → ∃ x, ce E fb (c0 ++ A ++ R) x ∧ vx n sl SH FI FL FR v st x := by
                intro h
                rcases h with ⟨-, h⟩ | ⟨-, h⟩
                · obtain ⟨v1, n1, sl1, SH1, FI1, FL1, FR1, hfl, h⟩ := h
                  have := c_fail_f hz9 hfl
                  cases this
                  exact go h
                · exact go h
              rcases h with ⟨-, h⟩ | ⟨-, h⟩
              · exact go77 h
              rcases h with ⟨-, h⟩ | ⟨-, h⟩
              · exact go77 h
              · exact go h
            · subst z1
              rw [eo, show ((27 : Int32)).toInt = 27 by first | decide | (simp; done) | (simp [ms_0]; done), show ((29 : Int32)).toInt = 29 by first | decide | (simp; done) | (simp [ms_0]; done)] at h
              have w := n_op_ok (FI c 2).toInt
              have plain : ¬ ((n_op (FI c 2).toInt = 27 ∨ n_op (FI c 2).toInt = 29) ∧ v2.toInt = 0) → RX2_chainValue_93 (GX2_chainValue_30 (fun a1 a2 n sl SH FI FL FR => QX2 g 0 a1 a2 n sl SH FI FL FR) (fun a1 a2 n sl SH FI FL FR => QX2 g 1 a1 a2 n sl SH FI FL FR) a1 a2 gl) (fun a1 a2 n sl SH FI FL FR => QX2 g 0 a1 a2 n sl SH FI FL FR) (fun a1 a2 n sl SH FI FL FR => QX2 g 1 a1 a2 n sl SH FI FL FR) a1 a2 l3 (some c) v2 (fX4_operationOf (FI2 c 2) SH FI2 FL2 FR2) n sl SH FI2 FL2 FR2 v st → ∃ x, ce E fb (c0 ++ A ++ R) x ∧ vx n sl SH FI FL FR v st x := by
                intro hn h
                obtain ⟨c5, e5, h⟩ := h
                cases e5
                have ej : fX9_joined (fX4_operationOf (FI2 c 2) SH FI2 FL2 FR2) l3 v2 SH FI2 FL2 FR2 = ms_wk (n_op (FI c 2).toInt) l3 v2 := by
                  rw [← eo]
                  exact wj (by rw [eo]; exact w) (by rw [eo]; exact hn)
                rw [ej] at h
                have z4 : ce E fb (c0 ++ A) (.inr (ms_wk (n_op (FI c 2).toInt) l3 v2)) := by
                  have : xe2 (n_op (FI c 2).toInt) (.inr l3) (.inr v2) = .inr (ms_wk (n_op (FI c 2).toInt) l3 v2) := by
                    show (if (n_op (FI c 2).toInt = 27 ∨ n_op (FI c 2).toInt = 29) ∧ v2.toInt = 0 then _ else _) = _
                    rw [if_neg hn]
                  rw [← this]
                  exact z3
                obtain ⟨x, x1, x2⟩ := i1 g gl (FR2 c 6) a1 a2 d FI2 FL2 FR2 v _ st (c0 ++ A) R h hd h0 h1 eR hl2 z4 z2 y2.2.2.2.2 E2
                exact ⟨x, x1, vx_up y2 x2⟩
              have byz : (n_op (FI c 2).toInt = 27 ∨ n_op (FI c 2).toInt = 29) → RX2_chainValue_77 (GX2_chainValue_30 (fun a1 a2 n sl SH FI FL FR => QX2 g 0 a1 a2 n sl SH FI FL FR) (fun a1 a2 n sl SH FI FL FR => QX2 g 1 a1 a2 n sl SH FI FL FR) a1 a2 gl) (fun a1 a2 n sl SH FI FL FR => QX2 g 0 a1 a2 n sl SH FI FL FR) (fun a1 a2 n sl SH FI FL FR => QX2 g 1 a1 a2 n sl SH FI FL FR) a1 a2 l3 (some c) v2 (fX4_operationOf (FI2 c 2) SH FI2 FL2 FR2) n sl SH FI2 FL2 FR2 v st → ∃ x, ce E fb (c0 ++ A ++ R) x ∧ vx n sl SH FI FL FR v st x := by
                intro hn h
                rcases h with ⟨kz, h⟩ | ⟨kz, h⟩
                · rw [show ((0 : Int64)).toInt = 0 by first | decide | (simp; done) | (simp [ms_0]; done)] at kz
                  obtain ⟨v1, n1, sl1, SH1, FI1, FL1, FR1, hfl, h⟩ := h
                  obtain ⟨F3, y4, y5, y6⟩ := c_fail (e := 6) y2.2.2.2.2 z2 (by first | decide | (simp; done) | (simp [ms_0]; done)) (by first | decide | (simp; done) | (simp [ms_0]; done)) hfl
                  cases y4
                  obtain ⟨c5, e5, h⟩ := h
                  have := c_30_f (by rw [y6]; (first | decide | (simp; done) | (simp [ms_0]; done))) h
                  have z4 : ce E fb (c0 ++ A) (.inl 6) := by
                    have : xe2 (n_op (FI c 2).toInt) (.inr l3) (.inr v2) = .inl 6 := by
                      show (if (n_op (FI c 2).toInt = 27 ∨ n_op (FI c 2).toInt = 29) ∧ v2.toInt = 0 then _ else _) = _
                      rw [if_pos ⟨hn, kz⟩]
                    rw [← this]
                    exact z3
                  exact ⟨.inl 6, ce_ft z4, _, _, _, this, vk_tr y2 y5, y6, by first | decide | (simp; done) | (simp [ms_0]; done)⟩
                · rw [show ((0 : Int64)).toInt = 0 by first | decide | (simp; done) | (simp [ms_0]; done)] at kz
                  exact plain (fun e => kz e.2) h
              rcases h with ⟨k, h⟩ | ⟨k, h⟩
              · exact byz (Or.inl k) h
              rcases h with ⟨k9, h⟩ | ⟨k9, h⟩
              · exact byz (Or.inr k9) h
              · exact plain (fun e => e.1.elim k k9) h
          by_cases hp : (FI c 2).toInt = 43 ∧ (FI c 0).toInt = 5
          · -- + and a number alone
            rw [if_pos hp] at hA2
            obtain ⟨R, q1, q2⟩ := om_some hA2
            obtain ⟨w1, w2⟩ := hg.1 hp.2
            -- its value is its number
            have hv : ∃ F2 L2 R2, (n2, sl2, SH2, FI2, FL2, FR2) = (n, sl, SH, F2, L2, R2) ∧ vk FI FL FR F2 L2 R2 ∧ v2 = FL c 1 ∧ (F2 90 4).toInt = 0 := by
              cases g with
              | zero => exact hc.elim
              | succ g =>
                rcases hc with ⟨k, -⟩ | ⟨-, hc⟩
                · cases k
                have hc := P_p hc hz
                rcases hc with ⟨k, -⟩ | ⟨-, hc⟩
                · rw [c120, hd1] at k
                  exact absurd k (by omega)
                obtain ⟨c9, e9, hc⟩ := hc
                cases e9
                have hc := P_p hc hp.2
                obtain ⟨c9, e9, hc⟩ := hc
                cases e9
                exact ⟨_, _, _, hc.2, vk_rf ht, hc.1, hz⟩
            obtain ⟨F2, L2, R2, y1, y2, y3, y4⟩ := hv
            have w35 : n_op (FI c 2).toInt = 34 := by rw [hp.1]; (first | decide | (simp; done) | (simp [ms_0]; done))
            refine fin (35 :: lc_u 9 (FL c 1).toInt) R q1 q2.symm y1 y2 (Or.inr ⟨_, rfl, y4, ?_⟩)
            have q := ce_35 (w := (FL c 1).toInt) ⟨w1, w2⟩ hc0
            rw [xad_p] at q
            rw [w35, y3]
            exact q
          · rw [if_neg hp] at hA2
            obtain ⟨A, R, q1, q2, q3⟩ := o2_some hA2
            rw [← q3] at hl
            simp only [List.length_append] at hl
            obtain ⟨x, x1, F2, L2, R2, y1, y2, y3⟩ := i0 g _ _ (d + 1) FI FL FR v2 _ A hc hd1 (by omega) (by omega) q1 (by omega) hz ht hE
            refine fin (A ++ [n_op (FI c 2).toInt]) R q2 q3.symm y1 y2 ?_
            have w := n_op_ok (FI c 2).toInt
            have k2 := ce_2 w hc0 x1
            match x, x1, y3, k2 with
            | .inl e9, x1, ⟨z1, z2⟩, k2 => exact Or.inl ⟨e9, z1, z2, k2⟩
            | .inr t, x1, ⟨z1, z2⟩, k2 => exact Or.inr ⟨t, z1, z2, k2⟩
    · -- a chain from its first on
      intro g c a2 d FI FL FR v st code h hd h0 h1 h176 hA hl hz ht hE
      have hd1 : (a2 + (1 : Int32)).toInt = d + 1 := i_add hd (by first | decide | (simp; done) | (simp [ms_0]; done) : ((1 : Int32)).toInt = 1) (by omega) (by omega)
      obtain ⟨c1, e1, h⟩ := h
      cases e1
      rcases h with ⟨k1, -⟩ | ⟨k1, h⟩
      · rw [k1] at hA
        have hA : (none : Option (List Int)) = some code := hA
        cases hA
      cases ha : FR c 3 with
      | none => exact absurd ha k1
      | some a =>
        rw [ha] at hA
        obtain ⟨c3, e3, v3, n3, sl3, SH3, FI3, FL3, FR3, hc, c5, e5, c6, e6, gl, h⟩ := h
        cases e3
        cases e5
        rw [ha] at hc
        have ok := n_cd_ok hA
        have hg : ((FI a 0).toInt = 5 → 0 ≤ (FL a 1).toInt ∧ (FL a 1).toInt ≤ 999999999999999999) ∧ ((FI a 0).toInt = 37 → 0 ≤ (FL a 1).toInt ∧ (FL a 1).toInt ≤ 31) ∧ ((FI a 0).toInt = 6 → 1 ≤ (FL a 1).toInt ∧ (FL a 1).toInt ≤ 8) := of_decide_eq_true ok.2
        have hA2 : n_st FI FL FR (n_cd FI FL FR f) 2 a d = some code := hA
        unfold n_st at hA2
        rw [if_neg (by rw [ok.2]; simp; omega), if_neg (by first | decide | (simp; done) | (simp [ms_0]; done)), if_neg (by first | decide | (simp; done) | (simp [ms_0]; done))] at hA2
        -- behind the first
        have fin : ∀ (A R : List Int) {x : xX}, n_cd FI FL FR f 1 (FR a 6) d = some R → code = A ++ R → ce E fb A x → vx n sl SH FI FL FR v3 (n3, sl3, SH3, FI3, FL3, FR3) x → ∃ x, ce E fb code x ∧ vx n sl SH FI FL FR v st x := by
          intro A R x hR ec hA9 hx
          obtain ⟨F2, L2, R2, y1, y2, y3⟩ := hx
          cases y1
          have dy := vk_dyn y2
          rw [(dy c h176).2.2, ha] at e6
          cases e6
          rw [ec]
          rw [ec] at hl
          match x, hA9, y3 with
          | .inl e9, hA9, ⟨z1, z2⟩ =>
            have := c_30_f (by rw [z1]; exact z2) h
            exact ⟨.inl e9, ce_ft hA9, _, _, _, this, y2, z1, z2⟩
          | .inr t, hA9, ⟨z1, z2⟩ =>
            rw [z1, (dy a ok.1).2.2] at h
            obtain ⟨w, w1, w2⟩ := i1 g gl (FR a 6) (some c) a2 d FI3 FL3 FR3 v t st A R h hd h0 h1 ((n_cd_ag3 dy _ _ _ _).trans hR) hl hA9 z2 y2.2.2.2.2 (cE_vk hE y2)
            exact ⟨w, w1, vx_up y2 w2⟩
        cases hn : n_nx FI FL FR a with
        | none =>
          rw [hn] at hA2
          obtain ⟨A, R, q1, q2, q3⟩ := o2_some hA2
          have hl2 := hl
          rw [← q3, List.length_append] at hl2
          obtain ⟨x, x1, x2⟩ := i0 g _ _ (d + 1) FI FL FR v3 _ A hc hd1 (by omega) (by omega) q1 (by omega) hz ht hE
          exact fin A R q2 q3.symm x1 x2
        | some e =>
          -- % r or fb, and a number behind it: one operation
          rw [hn] at hA2
          obtain ⟨R, q1, q2⟩ := om_some hA2
          (try dsimp only at q2)
          obtain ⟨kb, e6', he, hk5, hsg, hrg⟩ := n_nx_is hn
          have hge : 0 ≤ (FL e 1).toInt ∧ (FL e 1).toInt ≤ 999999999999999999 := (of_decide_eq_true hrg : _ ∧ _).1 hk5
          -- the first's own value
          have hx : ∃ x, vx n sl SH FI FL FR v3 (n3, sl3, SH3, FI3, FL3, FR3) x ∧ ∀ p : Int, -999999999999999999 ≤ p ∧ p ≤ 999999999999999999 → ce E fb (n_bs (FI a 0).toInt (FL a 1).toInt p) (x_ad x p) := by
            cases g with
            | zero => exact hc.elim
            | succ g =>
              rcases hc with ⟨k, -⟩ | ⟨-, hc⟩
              · cases k
              have hc := P_p hc hz
              rcases hc with ⟨k, -⟩ | ⟨-, hc⟩
              · rw [c120, hd1] at k
                exact absurd k (by omega)
              obtain ⟨c9, e9, hc⟩ := hc
              cases e9
              have hc := P_n hc (fun k => by have k : (FI a 0).toInt = 5 := k; omega)
              rcases hc with ⟨k11, hc⟩ | ⟨k11, hc⟩
              · have k11 : (FI a 0).toInt = 11 := k11
                refine ⟨fb, c_fbx hS hE ht hz hf hc, fun p hp => ?_⟩
                unfold n_bs
                rw [if_neg (by omega)]
                exact ce_fb hp
              · have k11 : ¬ (FI a 0).toInt = 11 := k11
                have k37 : (FI a 0).toInt = 37 := by omega
                have hc := P_n hc (fun k => by have k : (FI a 0).toInt = 12 := k; omega)
                have hc := P_n hc (fun k => by have k : (FI a 0).toInt = 13 := k; omega)
                have hc := P_n hc (fun k => by have k : (FI a 0).toInt = 25 := k; omega)
                have hc := P_p hc k37
                obtain ⟨c9, e9, hc⟩ := hc
                cases e9
                rw [c_reg hS hE (hg.2.1 k37).1 (hg.2.1 k37).2] at hc
                refine ⟨_, vx_ret ht hz hc, fun p hp => ?_⟩
                unfold n_bs
                rw [if_pos k37]
                exact ce_rg (hg.2.1 k37) hp
          obtain ⟨x, hx, hcb⟩ := hx
          obtain ⟨F2, L2, R2, y1, y2, y3⟩ := hx
          cases y1
          have dy := vk_dyn y2
          rw [(dy c h176).2.2, ha] at e6
          cases e6
          rw [(dy a ok.1).2.2, e6'] at h
          rw [← q2] at hl ⊢
          have hp9 : -999999999999999999 ≤ n_sg (FI e 2).toInt (FL e 1).toInt ∧ n_sg (FI e 2).toInt (FL e 1).toInt ≤ 999999999999999999 := by
            unfold n_sg
            by_cases q : (FI e 2).toInt = 45
            · rw [if_pos q]; omega
            · rw [if_neg q]; omega
          have hcb := hcb _ hp9
          match x, hcb, y3 with
          | .inl e9, hcb, ⟨z1, z2⟩ =>
            have := c_30_f (by rw [z1]; exact z2) h
            exact ⟨.inl e9, ce_ft hcb, _, _, _, this, y2, z1, z2⟩
          | .inr t, hcb, ⟨z1, z2⟩ =>
            rw [z1] at h
            -- one turn of the loop: the number
            cases gl with
            | zero => exact h.elim
            | succ gl =>
              rcases h with ⟨k, -⟩ | ⟨-, h⟩
              · cases k
              have h := P_p h z2
              obtain ⟨v2, n2, sl2, SH2, FI2, FL2, FR2, hv, c4, e4, h⟩ := h
              cases e4
              have hv2 : v2 = FL e 1 ∧ (n2, sl2, SH2, FI2, FL2, FR2) = (n, sl, SH, FI3, FL3, FR3) := by
                cases g with
                | zero => exact hv.elim
                | succ g =>
                  rcases hv with ⟨k, -⟩ | ⟨-, hv⟩
                  · cases k
                  have hv := P_p hv z2
                  rcases hv with ⟨k, -⟩ | ⟨-, hv⟩
                  · rw [c120, hd1] at k
                    exact absurd k (by omega)
                  obtain ⟨c9, e9, hv⟩ := hv
                  cases e9
                  have hv := P_p hv (by rw [(dy e he).1]; exact hk5)
                  obtain ⟨c9, e9, hv⟩ := hv
                  cases e9
                  exact ⟨by rw [hv.1, (dy e he).2.1], hv.2⟩
              obtain ⟨rfl, hv3⟩ := hv2
              cases hv3
              have eo : (fX4_operationOf (FI3 e 2) SH FI3 FL3 FR3).toInt = n_op (FI e 2).toInt := by rw [c_op, (dy e he).1]
              have on : n_op (FI e 2).toInt = 34 ∨ n_op (FI e 2).toInt = 28 := by
                rcases hsg with q | q
                · rw [q]; exact Or.inl (by first | decide | (simp; done) | (simp [ms_0]; done))
                · rw [q]; exact Or.inr (by first | decide | (simp; done) | (simp [ms_0]; done))
              rw [eo, show ((27 : Int32)).toInt = 27 by first | decide | (simp; done) | (simp [ms_0]; done), show ((29 : Int32)).toInt = 29 by first | decide | (simp; done) | (simp [ms_0]; done)] at h
              have h := P_n h (by omega)
              have h := P_n h (by omega)
              obtain ⟨c5, e5, h⟩ := h
              cases e5
              have ej : fX9_joined (fX4_operationOf (FI3 e 2) SH FI3 FL3 FR3) t (FL e 1) SH FI3 FL3 FR3 = ms_wk (n_op (FI e 2).toInt) t (FL e 1) := by
                rw [← eo]
                exact wj (by rw [eo]; exact n_op_ok _) (by rw [eo]; omega)
              rw [ej, (dy e he).2.2] at h
              have hb9 : ce E fb (n_bs (FI a 0).toInt (FL a 1).toInt (n_sg (FI e 2).toInt (FL e 1).toInt)) (.inr (ms_wk (n_op (FI e 2).toInt) t (FL e 1))) := by
                have : x_ad (.inr t) (n_sg (FI e 2).toInt (FL e 1).toInt) = .inr (ms_wk (n_op (FI e 2).toInt) t (FL e 1)) := by
                  unfold n_sg
                  rcases hsg with q | q
                  · rw [q, if_neg (by first | decide | (simp; done) | (simp [ms_0]; done)), xad_p]
                    rfl
                  · rw [q, if_pos rfl, xad_m]
                    rfl
                rw [← this]
                exact hcb
              obtain ⟨w, w1, w2⟩ := i1 g gl (FR e 6) (some c) a2 d FI3 FL3 FR3 v _ st _ R h hd h0 h1 ((n_cd_ag3 dy _ _ _ _).trans q1) hl hb9 z2 y2.2.2.2.2 (cE_vk hE y2)
              exact ⟨w, w1, vx_up y2 w2⟩
end CVT
end
section
/-! CODE READ FROM THE LEFT: which kind of place it makes, and where it ends. -/
def l_sk (b : Int) (r : List Int) : List Int :=
  if b = 8 ∨ b = 148 then r.drop 1
  else if b = 10 ∨ b = 40 ∨ b = 47 then r.drop 2
  else if b = 12 then r.drop 4
  else if b = 14 then r.drop 8
  else if (112 ≤ b ∧ b ≤ 143) ∨ b = 145 then (xv r 1 0).2
  else if b = 35 then (xu r 1 0).2
  else r
def ldx : Nat → Int → List Int → Option (Int × List Int)
  | 0, _, _ => none
  | _ + 1, k, [] => some (k, [])
  | g + 1, k, b :: r =>
    if b = 147 then some (k, b :: r)
    else if b = 159 then ldx g 3 r
    else if 80 ≤ b ∧ b ≤ 111 then ldx g 2 r
    else if b = 158 then ldx g 4 ((r.drop 1).drop (r.headD 0).toNat)
    else ldx g 1 (l_sk b r)
/-- an expression's bytes -/
def lxx (c : List Int) : Prop := c ≠ [] ∧ ∀ (r : List Int) (k : Int), ∃ j, ∀ g, ldx (g + j) k (c ++ r) = ldx g 1 r
section LXX
variable {c c1 c2 c3 o : List Int} {b v p w : Int}
theorem lxx_1 (h1 : b ≠ 147) (h2 : b ≠ 159) (h3 : ¬ (80 ≤ b ∧ b ≤ 111)) (h4 : b ≠ 158) (h : ∀ r, l_sk b (o ++ r) = r) : lxx (b :: o) := by
  refine ⟨fun e => (by cases e), fun r k => ⟨1, fun g => ?_⟩⟩
  rw [List.cons_append, ldx, if_neg h1, if_neg h2, if_neg h3, if_neg h4, h]
theorem lxx_a (h1 : lxx c1) (h2 : lxx c2) : lxx (c1 ++ c2) := by
  refine ⟨fun e => h1.1 (List.append_eq_nil_iff.mp e).1, fun r k => ?_⟩
  obtain ⟨j1, e1⟩ := h1.2 (c2 ++ r) k
  obtain ⟨j2, e2⟩ := h2.2 r 1
  exact ⟨j2 + j1, fun g => by rw [List.append_assoc, ← Nat.add_assoc, e1, e2]⟩
theorem lxx_op (h : b = 6 ∨ b = 155 ∨ b = 156 ∨ b = 151 ∨ (26 ≤ b ∧ b ≤ 46 ∧ b ≠ 35 ∧ b ≠ 40) ∨ (48 ≤ b ∧ b ≤ 79)) : lxx [b] := by
  refine lxx_1 (o := []) (by omega) (by omega) (by omega) (by omega) (fun r => ?_)
  unfold l_sk
  rw [if_neg (by omega), if_neg (by omega), if_neg (by omega), if_neg (by omega), if_neg (by omega), if_neg (by omega)]
  rfl
theorem l_byd (v : Int) (n : Nat) (r : List Int) : (lc_by v n ++ r).drop n = r := List.drop_left' (lc_by_len v n)
theorem lxx_2 (h : b = 40 ∨ b = 47 ∨ b = 10) : lxx (b :: lc_by v 2) := by
  refine lxx_1 (by omega) (by omega) (by omega) (by omega) (fun r => ?_)
  unfold l_sk
  rw [if_neg (by omega), if_pos (by omega)]
  exact l_byd v 2 r
theorem lxx_c (h0 : 0 ≤ v) : lxx (lc_c v) := by
  unfold lc_c
  by_cases a1 : v ≤ 31
  · rw [if_pos a1]
    exact lxx_op (by omega)
  rw [if_neg a1]
  by_cases a2 : v ≤ 255
  · rw [if_pos a2]
    refine lxx_1 (by first | decide | (simp; done) | (simp [ms_0]; done)) (by first | decide | (simp; done) | (simp [ms_0]; done)) (by first | decide | (simp; done) | (simp [ms_0]; done)) (by first | decide | (simp; done) | (simp [ms_0]; done)) (fun r => ?_)
    unfold l_sk
    rw [if_pos (Or.inl rfl)]
    exact l_byd v 1 r
  rw [if_neg a2]
  by_cases a3 : v ≤ 65535
  · rw [if_pos a3]
    exact lxx_2 (by omega)
  rw [if_neg a3]
  by_cases a4 : v ≤ 4294967295
  · rw [if_pos a4]
    refine lxx_1 (by first | decide | (simp; done) | (simp [ms_0]; done)) (by first | decide | (simp; done) | (simp [ms_0]; done)) (by first | decide | (simp; done) | (simp [ms_0]; done)) (by first | decide | (simp; done) | (simp [ms_0]; done)) (fun r => ?_)
    unfold l_sk
    rw [if_neg (by first | decide | (simp; done) | (simp [ms_0]; done)), if_neg (by first | decide | (simp; done) | (simp [ms_0]; done)), if_pos rfl]
    exact l_byd v 4 r
  · rw [if_neg a4]
    refine lxx_1 (by first | decide | (simp; done) | (simp [ms_0]; done)) (by first | decide | (simp; done) | (simp [ms_0]; done)) (by first | decide | (simp; done) | (simp [ms_0]; done)) (by first | decide | (simp; done) | (simp [ms_0]; done)) (fun r => ?_)
    unfold l_sk
    rw [if_neg (by first | decide | (simp; done) | (simp [ms_0]; done)), if_neg (by first | decide | (simp; done) | (simp [ms_0]; done)), if_neg (by first | decide | (simp; done) | (simp [ms_0]; done)), if_pos rfl]
    exact l_byd v 8 r
theorem lxx_s (hb : (112 ≤ b ∧ b ≤ 143) ∨ b = 145) (h : -999999999999999999 ≤ p ∧ p ≤ 999999999999999999) : lxx (b :: lc_s 9 p) := by
  refine lxx_1 (by omega) (by omega) (by omega) (by omega) (fun r => ?_)
  unfold l_sk
  rw [if_neg (by omega), if_neg (by omega), if_neg (by omega), if_neg (by omega), if_pos hb, xv_9 h]
theorem lxx_35 (h : 0 ≤ p ∧ p ≤ 999999999999999999) : lxx (35 :: lc_u 9 p) := by
  refine lxx_1 (by first | decide | (simp; done) | (simp [ms_0]; done)) (by first | decide | (simp; done) | (simp [ms_0]; done)) (by first | decide | (simp; done) | (simp [ms_0]; done)) (by first | decide | (simp; done) | (simp [ms_0]; done)) (fun r => ?_)
  unfold l_sk
  rw [if_neg (by first | decide | (simp; done) | (simp [ms_0]; done)), if_neg (by first | decide | (simp; done) | (simp [ms_0]; done)), if_neg (by first | decide | (simp; done) | (simp [ms_0]; done)), if_neg (by first | decide | (simp; done) | (simp [ms_0]; done)), if_neg (by first | decide | (simp; done) | (simp [ms_0]; done)), if_pos rfl, xu_9 h]
theorem lxx_148 : lxx [148, w] := by
  refine lxx_1 (o := [w]) (by first | decide | (simp; done) | (simp [ms_0]; done)) (by first | decide | (simp; done) | (simp [ms_0]; done)) (by first | decide | (simp; done) | (simp [ms_0]; done)) (by first | decide | (simp; done) | (simp [ms_0]; done)) (fun r => ?_)
  unfold l_sk
  rw [if_pos (Or.inr rfl)]
  rfl
theorem lxx_ch (h2 : lxx c2) (h3 : lxx c3) : lxx (lc_ch c2 c3) := by
  show lxx ((40 :: lc_by (c3.length + 3) 2) ++ (c3 ++ ((47 :: lc_by c2.length 2) ++ c2)))
  exact lxx_a (lxx_2 (Or.inl rfl)) (lxx_a h3 (lxx_a (lxx_2 (Or.inr (Or.inl rfl))) h2))
theorem lxx_un {k w : Int} (h : lxx c) : lxx (c ++ n_un k w) := by
  unfold n_un
  by_cases h6 : k = 6
  · rw [if_pos h6]
    by_cases h8 : w = 8
    · rw [if_pos h8]
      exact lxx_a h (lxx_op (Or.inl rfl))
    · rw [if_neg h8]
      exact lxx_a h lxx_148
  rw [if_neg h6]
  by_cases h14 : k = 14
  · rw [if_pos h14]
    exact lxx_a h (lxx_op (Or.inr (Or.inl rfl)))
  rw [if_neg h14]
  by_cases h45 : k = 45
  · rw [if_pos h45]
    exact lxx_a h (lxx_op (by first | decide | (simp; done) | (simp [ms_0]; done)))
  rw [if_neg h45]
  by_cases h126 : k = 126
  · rw [if_pos h126]
    exact lxx_a h (lxx_op (by first | decide | (simp; done) | (simp [ms_0]; done)))
  rw [if_neg h126, List.append_nil]
  exact h
theorem lxx_bs {k w : Int} (hk : k = 37 → 0 ≤ w ∧ w ≤ 31) (h : -999999999999999999 ≤ p ∧ p ≤ 999999999999999999) : lxx (n_bs k w p) := by
  unfold n_bs
  by_cases h37 : k = 37
  · rw [if_pos h37]
    have := hk h37
    exact lxx_s (by omega) h
  · rw [if_neg h37]
    exact lxx_s (Or.inr rfl) h
end LXX
theorem n_rg_i {k w : Int} (h : n_rg k w = true) : (k = 5 → 0 ≤ w ∧ w ≤ 999999999999999999) ∧ (k = 37 → 0 ≤ w ∧ w ≤ 31) ∧ (k = 6 → 1 ≤ w ∧ w ≤ 8) := of_decide_eq_true h
/-- a tree's bytes are an expression's -/
theorem n_cd_lxx {FI : Nat → Nat → Int32} {FL : Nat → Nat → Int64} {FR : Nat → Nat → Option Nat} : ∀ (f m : Nat) (o : Option Nat) (d : Int) (x : List Int), n_cd FI FL FR f m o d = some x → (m ≠ 1 → lxx x) ∧ (m = 1 → x = [] ∨ lxx x) := by
  intro f
  induction f with
  | zero => intro m o d x h; cases h
  | succ f ih =>
    intro m o d x h
    cases o with
    | none =>
      by_cases h1 : m = 1
      · subst h1
        have h : some [] = some x := h
        exact ⟨fun e => absurd rfl e, fun _ => Or.inl (Option.some.inj h).symm⟩
      · exfalso
        match m, h1, h with
        | 0, _, h => cases h
        | 1, h1, _ => exact h1 rfl
        | m + 2, _, h => cases h
    | some c =>
      have ok := n_cd_ok h
      have hg := n_rg_i ok.2
      have h : n_st FI FL FR (n_cd FI FL FR f) m c d = some x := h
      unfold n_st at h
      rw [if_neg (by rw [ok.2]; simp; omega)] at h
      by_cases h0 : m = 0
      · rw [if_pos h0] at h
        refine ⟨fun _ => ?_, fun e => by omega⟩
        by_cases g1 : 120 < d
        · rw [if_pos g1] at h; cases h
        rw [if_neg g1] at h
        by_cases g2 : (FI c 0).toInt = 5
        · rw [if_pos g2] at h
          rw [← Option.some.inj h]
          exact lxx_c (hg.1 g2).1
        rw [if_neg g2] at h
        by_cases g3 : (FI c 0).toInt = 11 ∨ (FI c 0).toInt = 37
        · rw [if_pos g3] at h
          rw [← Option.some.inj h]
          exact lxx_bs hg.2.1 (by first | decide | (simp; done) | (simp [ms_0]; done))
        rw [if_neg g3] at h
        by_cases g4 : (FI c 0).toInt = 12
        · rw [if_pos g4] at h
          rw [← Option.some.inj h]
          exact lxx_op (by first | decide | (simp; done) | (simp [ms_0]; done))
        rw [if_neg g4] at h
        by_cases g5 : (FI c 0).toInt = 13
        · rw [if_pos g5] at h
          rw [← Option.some.inj h]
          exact lxx_op (by first | decide | (simp; done) | (simp [ms_0]; done))
        rw [if_neg g5] at h
        by_cases g6 : (FI c 0).toInt = 25
        · rw [if_pos g6] at h
          by_cases g7 : 120 ≤ d
          · rw [if_pos g7] at h; cases h
          rw [if_neg g7] at h
          exact (ih 2 _ _ _ h).1 (by first | decide | (simp; done) | (simp [ms_0]; done))
        rw [if_neg g6] at h
        by_cases g8 : (FI c 0).toInt = 63
        · rw [if_pos g8] at h
          obtain ⟨a, b, e1, e2, e3⟩ := o2_some h
          obtain ⟨a2, b2, e4, e5, e6⟩ := o2_some e2
          rw [← e3, ← e6]
          exact lxx_a ((ih 0 _ _ _ e1).1 (by first | decide | (simp; done) | (simp [ms_0]; done))) (lxx_ch ((ih 0 _ _ _ e4).1 (by first | decide | (simp; done) | (simp [ms_0]; done))) ((ih 0 _ _ _ e5).1 (by first | decide | (simp; done) | (simp [ms_0]; done))))
        rw [if_neg g8] at h
        obtain ⟨a, e1, e2⟩ := om_some h
        rw [← e2]
        exact lxx_un ((ih 0 _ _ _ e1).1 (by first | decide | (simp; done) | (simp [ms_0]; done)))
      rw [if_neg h0] at h
      have ap : ∀ {a r : List Int}, lxx a → (r = [] ∨ lxx r) → lxx (a ++ r) := by
        intro a r h1 h2
        rcases h2 with h2 | h2
        · rw [h2, List.append_nil]; exact h1
        · exact lxx_a h1 h2
      by_cases h1 : m = 1
      · rw [if_pos h1] at h
        refine ⟨fun e => absurd h1 e, fun _ => Or.inr ?_⟩
        by_cases g1 : (FI c 2).toInt = 43 ∧ (FI c 0).toInt = 5
        · rw [if_pos g1] at h
          obtain ⟨a, e1, e2⟩ := om_some h
          rw [← e2]
          exact ap (lxx_35 (hg.1 g1.2)) ((ih 1 _ _ _ e1).2 rfl)
        · rw [if_neg g1] at h
          obtain ⟨a, b, e1, e2, e3⟩ := o2_some h
          rw [← e3]
          have w := n_op_ok (FI c 2).toInt
          exact ap (lxx_a ((ih 0 _ _ _ e1).1 (by first | decide | (simp; done) | (simp [ms_0]; done))) (lxx_op (by omega))) ((ih 1 _ _ _ e2).2 rfl)
      · rw [if_neg h1] at h
        refine ⟨fun _ => ?_, fun e => absurd e h1⟩
        cases hn : n_nx FI FL FR c with
        | some e =>
          rw [hn] at h
          have h : (n_cd FI FL FR f 1 (FR e 6) d).map (fun r => n_bs (FI c 0).toInt (FL c 1).toInt (n_sg (FI e 2).toInt (FL e 1).toInt) ++ r) = some x := h
          obtain ⟨a, e1, e2⟩ := om_some h
          rw [← e2]
          have q := n_nx_is hn
          have w := (n_rg_i q.2.2.2.2.2).1 q.2.2.2.1
          refine ap (lxx_bs hg.2.1 ?_) ((ih 1 _ _ _ e1).2 rfl)
          unfold n_sg
          split
          · omega
          · omega
        | none =>
          rw [hn] at h
          have h : o2 (fun a r => a ++ r) (n_cd FI FL FR f 0 (some c) (d + 1)) (n_cd FI FL FR f 1 (FR c 6) d) = some x := h
          obtain ⟨a, b, e1, e2, e3⟩ := o2_some h
          rw [← e3]
          exact ap ((ih 0 _ _ _ e1).1 (by first | decide | (simp; done) | (simp [ms_0]; done))) ((ih 1 _ _ _ e2).2 rfl)
end
section
/-! THE REFERENCE'S MEANINGS of expressions: its walk over the kept tokens, with values. -/
theorem lc_op_ok (k w : Int) : 26 ≤ lc_op k w ∧ lc_op k w ≤ 46 ∧ lc_op k w ≠ 31 ∧ lc_op k w ≠ 32 ∧ lc_op k w ≠ 35 ∧ lc_op k w ≠ 40 := by
  unfold lc_op
  repeat' split
  all_goals omega
/-- an operator that waits: how it binds, its code, whether all was live, whether its E is so -/
abbrev mq_E : Type := Int × Int × Bool × Bool
/-- the values (the last first; none: whatever it is), and the fault, or whether this part is live -/
abbrev mq_Q : Type := List (Option Int64) × (Int ⊕ Bool)
abbrev mq_S : Type := Nat × Bool × List mq_E × mq_Q
def mq_ps (x : xX) (q : mq_Q) : mq_Q := match q.2 with
  | .inr true => (match x with
    | .inl e => (none :: q.1, .inl e)
    | .inr v => (some v :: q.1, .inr true))
  | .inr false => (none :: q.1, .inr false)
  | .inl e => (none :: q.1, .inl e)
def mq_1 (E : ms_E) (k : Int) (x : xX) : xX := if k < 256 then xe1 E k 0 x else xe1 E 148 (k - 256) x
def mq_u (E : ms_E) (k : Int) (q : mq_Q) : Option mq_Q := match q.1 with
  | [] => none
  | x :: R => (match q.2 with
    | .inr true => (match x with
      | none => none
      | some v => some (mq_ps (mq_1 E k (.inr v)) (R, .inr true)))
    | .inr false => some (none :: R, .inr false)
    | .inl e => some (none :: R, .inl e))
def mq_b (c : Int) (q : mq_Q) : Option mq_Q := match q.1 with
  | [] => none
  | y :: R => (match R with
    | [] => none
    | x :: R2 => (match q.2 with
      | .inr true => (match y with
        | none => none
        | some b => (match x with
          | none => none
          | some a => some (mq_ps (xe2 c (.inr a) (.inr b)) (R2, .inr true))))
      | .inr false => some (none :: R2, .inr false)
      | .inl e => some (none :: R2, .inl e)))
/-- behind a ?: what is left, was it live, is it so -/
def mq_as (q : mq_Q) : Option (mq_Q × Bool × Bool) := match q.1 with
  | [] => none
  | x :: R => (match q.2 with
    | .inr true => (match x with
      | none => none
      | some v => some ((R, .inr (decide (v.toInt ≠ 0))), true, decide (v.toInt ≠ 0)))
    | .inr false => some ((R, .inr false), false, false)
    | .inl e => some ((R, .inl e), false, false))
/-- at its : -/
def mq_co (wl so : Bool) (q : mq_Q) : mq_Q := match q.2 with
  | .inr _ => (q.1, .inr (wl && !so))
  | .inl e => (q.1, .inl e)
/-- at its end -/
def mq_el (wl so : Bool) (q : mq_Q) : Option mq_Q := match q.1 with
  | [] => none
  | y :: R => (match R with
    | [] => none
    | x :: R2 => (match q.2 with
      | .inr _ => some ((if wl = true then (if so = true then x else y) else none) :: R2, .inr wl)
      | .inl e => some (none :: R2, .inl e)))
def mq_top (S : List mq_E) : Int := match S with
  | [] => -11
  | e :: _ => e.1
def mq_fl : List mq_E → mq_Q → Option mq_Q
  | [], q => some q
  | e :: P, q => match mq_b e.2.1 q with
    | none => none
    | some q2 => mq_fl P q2
def mq_rd (b : Int) : List mq_E → mq_Q → Option (List mq_E × mq_Q)
  | [], q => some ([], q)
  | e :: S, q => if b ≤ e.1 then (match mq_b e.2.1 q with
    | none => none
    | some q2 => mq_rd b S q2) else some (e :: S, q)
def mq_fin (E : ms_E) : List mq_E → mq_Q → Option (List mq_E × mq_Q)
  | [], q => some ([], q)
  | e :: S, q => if e.1 = 9 then (match mq_u E e.2.1 q with
    | none => none
    | some q2 => mq_fin E S q2) else some (e :: S, q)
def mq_all : List mq_E → mq_Q → Option (List mq_E × mq_Q)
  | [], q => some ([], q)
  | e :: S, q => if 1 ≤ e.1 then (match mq_b e.2.1 q with
    | none => none
    | some q2 => mq_all S q2) else if e.1 = -3 then (match mq_el e.2.2.1 e.2.2.2 q with
    | none => none
    | some q2 => mq_all S q2) else some (e :: S, q)
def mq_c (k w : Int) : Int := if k = 4 then 256 + w else if k = 2 then 155 else if w = 45 then 31 else 32
def mq_at (K W : Nat → Int) (E : ms_E) (fb : xX) (t : Nat) : Nat × xX :=
  if K t = 3 then (t + 1, .inr (Int64.ofInt (W t)))
  else if K t = 5 then (t + 2, .inr (ms_rg E (W (t + 1)).toNat))
  else if W t = 5 then (t + 1, x_cfa E)
  else if W t = 6 then (t + 1, x_obj E)
  else (t + 1, fb)
def mq_opd (K W : Nat → Int) (E : ms_E) (fb : xX) (t : Nat) (S : List mq_E) (q : mq_Q) : Option mq_S :=
  if lc_uy (K t) (W t) = true then some (t + 1, true, (9, mq_c (K t) (W t), false, false) :: S, q)
  else if K t = 5 ∧ W t = 40 then some (t + 1, true, (-1, 0, false, false) :: S, q)
  else if lc_at K W false t = none then none
  else match mq_fin E S (mq_ps (mq_at K W E fb t).2 q) with
    | none => none
    | some r => some ((mq_at K W E fb t).1, false, r)
def mq_end (K W : Nat → Int) (E : ms_E) (t : Nat) (r : List mq_E × mq_Q) : Option (mq_S ⊕ (Nat × mq_Q)) := match r.1 with
  | [] => some (.inr (t, r.2))
  | e :: S =>
    if K t = 5 ∧ W t = 58 ∧ e.1 = -2 then some (.inl (t + 1, true, (-3, e.2.1, e.2.2.1, e.2.2.2) :: S, mq_co e.2.2.1 e.2.2.2 r.2))
    else if K t = 5 ∧ W t = 41 ∧ e.1 = -1 then (match mq_fin E S r.2 with
      | none => none
      | some r2 => some (.inl (t + 1, false, r2)))
    else some (.inr (t, r.2))
def mq_opr (K W : Nat → Int) (E : ms_E) (t : Nat) (S : List mq_E) (q : mq_Q) : Option (mq_S ⊕ (Nat × mq_Q)) :=
  if au_bn (K t) (W t) = 0 then
    if K t = 5 ∧ W t = 63 then (match mq_rd 1 S q with
      | none => none
      | some r => (match mq_as r.2 with
        | none => none
        | some a => some (.inl (t + 1, true, (-2, 0, a.2.1, a.2.2) :: r.1, a.1))))
    else (match mq_all S q with
      | none => none
      | some r => mq_end K W E t r)
  else (match mq_rd (au_bn (K t) (W t)) S q with
    | none => none
    | some r => some (.inl (t + 1, true, (au_bn (K t) (W t), lc_op (K t) (W t), false, false) :: r.1, r.2)))
def mq_run (K W : Nat → Int) (E : ms_E) (fb : xX) : Nat → mq_S → Option (Option (Nat × mq_Q))
  | 0, _ => none
  | n + 1, (t, true, S, q) => (match mq_opd K W E fb t S q with
    | none => some none
    | some s => mq_run K W E fb n s)
  | n + 1, (t, false, S, q) => (match mq_opr K W E t S q with
    | none => some none
    | some (.inl s) => mq_run K W E fb n s
    | some (.inr r) => some (some r))
section MQ
variable {K W : Nat → Int} {E : ms_E} {fb x y z v : xX} {q q2 : mq_Q} {S : List mq_E}
theorem mq_1_f {k e : Int} : mq_1 E k (.inl e) = .inl e := by
  unfold mq_1
  split <;> rfl
theorem mq_u_ps {k : Int} : mq_u E k (mq_ps x q) = some (mq_ps (mq_1 E k x) q) := by
  obtain ⟨V, m⟩ := q
  match m, x with
  | .inr true, .inl e =>
    rw [mq_1_f]
    rfl
  | .inr true, .inr v => rfl
  | .inr false, x => rfl
  | .inl e, x => rfl
theorem mq_b_ps {c : Int} : mq_b c (mq_ps y (mq_ps x q)) = some (mq_ps (xe2 c x y) q) := by
  obtain ⟨V, m⟩ := q
  match m, x, y with
  | .inr true, .inl e, y => rfl
  | .inr true, .inr a, .inl e => rfl
  | .inr true, .inr a, .inr b => rfl
  | .inr false, x, y => rfl
  | .inl e, x, y => rfl
def mq_ch (x y z : xX) : xX := match x with
  | .inl e => .inl e
  | .inr t => if t.toInt = 0 then z else y
theorem mq_ch_ps : ∃ q1 wl so, mq_as (mq_ps x q) = some (q1, wl, so) ∧ mq_el wl so (mq_ps z (mq_co wl so (mq_ps y q1))) = some (mq_ps (mq_ch x y z) q) := by
  obtain ⟨V, m⟩ := q
  match m, x with
  | .inl e, x => exact ⟨_, _, _, rfl, rfl⟩
  | .inr false, x => exact ⟨_, _, _, rfl, rfl⟩
  | .inr true, .inl e => exact ⟨_, _, _, rfl, rfl⟩
  | .inr true, .inr t =>
    refine ⟨(V, .inr (decide (t.toInt ≠ 0))), true, decide (t.toInt ≠ 0), rfl, ?_⟩
    by_cases h : t.toInt = 0
    · rw [show decide (t.toInt ≠ 0) = false from decide_eq_false (fun e => e h), show mq_ch (.inr t) y z = z from if_pos h]
      match z with
      | .inl e => rfl
      | .inr w => rfl
    · rw [show decide (t.toInt ≠ 0) = true from decide_eq_true h, show mq_ch (.inr t) y z = y from if_neg h]
      match y with
      | .inl e => rfl
      | .inr w => rfl
theorem mq_fl_app : ∀ {P Q : List mq_E} {q q2 : mq_Q}, mq_fl P q = some q2 → mq_fl (P ++ Q) q = mq_fl Q q2
  | [], Q, q, q2, h => by
    rw [show q = q2 from Option.some.inj h]
    rfl
  | e :: P, Q, q, q2, h => by
    show (match mq_b e.2.1 q with
      | none => none
      | some q2 => mq_fl (P ++ Q) q2) = _
    rw [mq_fl] at h
    cases hb : mq_b e.2.1 q with
    | none => rw [hb] at h; cases h
    | some q3 =>
      rw [hb] at h
      have h : mq_fl P q3 = some q2 := h
      exact mq_fl_app h
theorem mq_rd_app {b : Int} : ∀ {P S : List mq_E} {q q2 : mq_Q}, (∀ e, e ∈ P → b ≤ e.1) → mq_fl P q = some q2 → mq_rd b (P ++ S) q = mq_rd b S q2
  | [], S, q, q2, _, h => by
    rw [show q = q2 from Option.some.inj h]
    rfl
  | e :: P, S, q, q2, hP, h => by
    show (if b ≤ e.1 then (match mq_b e.2.1 q with
      | none => none
      | some q2 => mq_rd b (P ++ S) q2) else some (e :: (P ++ S), q)) = _
    rw [if_pos (hP e (List.mem_cons_self))]
    rw [mq_fl] at h
    cases hb : mq_b e.2.1 q with
    | none => rw [hb] at h; cases h
    | some q3 =>
      rw [hb] at h
      have h : mq_fl P q3 = some q2 := h
      exact mq_rd_app (fun e2 he => hP e2 (List.mem_cons_of_mem _ he)) h
theorem mq_all_app : ∀ {P S : List mq_E} {q q2 : mq_Q}, (∀ e, e ∈ P → 1 ≤ e.1) → mq_fl P q = some q2 → mq_all (P ++ S) q = mq_all S q2
  | [], S, q, q2, _, h => by
    rw [show q = q2 from Option.some.inj h]
    rfl
  | e :: P, S, q, q2, hP, h => by
    show (if 1 ≤ e.1 then (match mq_b e.2.1 q with
      | none => none
      | some q2 => mq_all (P ++ S) q2) else _) = _
    rw [if_pos (hP e (List.mem_cons_self))]
    rw [mq_fl] at h
    cases hb : mq_b e.2.1 q with
    | none => rw [hb] at h; cases h
    | some q3 =>
      rw [hb] at h
      have h : mq_fl P q3 = some q2 := h
      exact mq_all_app (fun e2 he => hP e2 (List.mem_cons_of_mem _ he)) h
theorem mq_rd_stop {b : Int} (h : mq_top S < b) : mq_rd b S q = some (S, q) := by
  cases S with
  | nil => rfl
  | cons e S =>
    have h2 : e.1 < b := h
    rw [mq_rd, if_neg (by omega)]
theorem mq_fin_stop (h : mq_top S ≠ 9) : mq_fin E S q = some (S, q) := by
  cases S with
  | nil => rfl
  | cons e S =>
    have h2 : e.1 ≠ 9 := h
    rw [mq_fin, if_neg h2]
theorem mq_all_stop (h : mq_top S < 1) (h3 : mq_top S ≠ -3) : mq_all S q = some (S, q) := by
  cases S with
  | nil => rfl
  | cons e S =>
    have h2 : e.1 < 1 := h
    have h4 : e.1 ≠ -3 := h3
    rw [mq_all, if_neg (by omega), if_neg h4]
theorem mq_fin_9 {k : Int} {a b : Bool} : mq_fin E ((9, k, a, b) :: S) (mq_ps v q) = mq_fin E S (mq_ps (mq_1 E k v) q) := by
  show (if (9 : Int) = 9 then (match mq_u E k (mq_ps v q) with
    | none => none
    | some q2 => mq_fin E S q2) else _) = _
  rw [if_pos rfl, mq_u_ps]
theorem mq_fin_ps : ∀ (S : List mq_E) (v : xX), ∃ S2 v2, mq_fin E S (mq_ps v q) = some (S2, mq_ps v2 q)
  | [], v => ⟨[], v, rfl⟩
  | (b, k, w1, w2) :: S, v => by
    by_cases h : b = 9
    · subst h
      rw [mq_fin_9]
      exact mq_fin_ps S _
    · exact ⟨_, v, mq_fin_stop h⟩
theorem mq_all_3 {wl so : Bool} (h : mq_el wl so q = some q2) : mq_all ((-3, 0, wl, so) :: S) q = mq_all S q2 := by
  show (if (1 : Int) ≤ -3 then _ else if (-3 : Int) = -3 then (match mq_el wl so q with
    | none => none
    | some q2 => mq_all S q2) else _) = _
  rw [if_neg (by first | decide | (simp; done) | (simp [ms_0]; done)), if_pos rfl, h]
def mq_to (K W : Nat → Int) (E : ms_E) (fb : xX) (a b : mq_S) : Prop := ∃ k, ∀ n, mq_run K W E fb (k + n) a = mq_run K W E fb n b
theorem mq_to_rf {a : mq_S} : mq_to K W E fb a a := ⟨0, fun n => by rw [Nat.zero_add]⟩
theorem mq_to_tr {a b c : mq_S} (h : mq_to K W E fb a b) (h2 : mq_to K W E fb b c) : mq_to K W E fb a c := by
  obtain ⟨k, hk⟩ := h
  obtain ⟨m, hm⟩ := h2
  exact ⟨k + m, fun n => by rw [Nat.add_assoc, hk, hm]⟩
theorem mq_to_d {t : Nat} {s : mq_S} (h : mq_opd K W E fb t S q = some s) : mq_to K W E fb (t, true, S, q) s := ⟨1, fun n => by rw [Nat.add_comm 1 n, mq_run, h]⟩
theorem mq_to_r {t : Nat} {s : mq_S} (h : mq_opr K W E t S q = some (.inl s)) : mq_to K W E fb (t, false, S, q) s := ⟨1, fun n => by rw [Nat.add_comm 1 n, mq_run, h]⟩
theorem mq_mono : ∀ (n : Nat) (s : mq_S) (r : Option (Nat × mq_Q)), mq_run K W E fb n s = some r → mq_run K W E fb (n + 1) s = some r
  | 0, _, _, h => by cases h
  | n + 1, (t, true, S, q), r, h => by
    rw [mq_run] at h ⊢
    cases hd : mq_opd K W E fb t S q with
    | none => rw [hd] at h; exact h
    | some s =>
      rw [hd] at h
      exact mq_mono n s r h
  | n + 1, (t, false, S, q), r, h => by
    rw [mq_run] at h ⊢
    match hd : mq_opr K W E t S q with
    | none => rw [hd] at h; exact h
    | some (.inl s) =>
      rw [hd] at h
      exact mq_mono n s r h
    | some (.inr r2) => rw [hd] at h; exact h
theorem mq_mono2 {n m : Nat} {s : mq_S} {r : Option (Nat × mq_Q)} (h : mq_run K W E fb n s = some r) (hm : n ≤ m) : mq_run K W E fb m s = some r := by
  induction hm with
  | refl => exact h
  | step _ ih => exact mq_mono _ _ _ ih
theorem mq_run_u {n m : Nat} {s : mq_S} {r r2 : Option (Nat × mq_Q)} (h : mq_run K W E fb n s = some r) (h2 : mq_run K W E fb m s = some r2) : r = r2 := by
  have a := mq_mono2 (m := n + m) h (by omega)
  have b := mq_mono2 (m := n + m) h2 (by omega)
  rw [a] at b
  exact Option.some.inj b
theorem x_ad0 : x_ad x 0 = x := by
  match x with
  | .inl e => rfl
  | .inr t =>
    show Sum.inr (t + Int64.ofInt 0) = _
    rw [show Int64.ofInt 0 = 0 by first | decide | (simp; done) | (simp [ms_0]; done), Int64.add_zero]
theorem xe2_34 {p : Int} : xe2 34 x (.inr (Int64.ofInt p)) = x_ad x p := by
  match x with
  | .inl e => rfl
  | .inr t =>
    show (if ((34 : Int) = 27 ∨ (34 : Int) = 29) ∧ (Int64.ofInt p).toInt = 0 then Sum.inl 6 else Sum.inr (ms_wk 34 t (Int64.ofInt p))) = _
    rw [if_neg (fun e => absurd e.1 (by first | decide | (simp; done) | (simp [ms_0]; done)))]
    rfl
theorem xe2_28 {p : Int} : xe2 28 x (.inr (Int64.ofInt p)) = x_ad x (-p) := by
  match x with
  | .inl e => rfl
  | .inr t =>
    show (if ((28 : Int) = 27 ∨ (28 : Int) = 29) ∧ (Int64.ofInt p).toInt = 0 then Sum.inl 6 else Sum.inr (ms_wk 28 t (Int64.ofInt p))) = Sum.inr (t + Int64.ofInt (-p))
    rw [if_neg (fun e => absurd e.1 (by first | decide | (simp; done) | (simp [ms_0]; done))), Int64.ofInt_neg, ← Int64.sub_eq_add_neg]
    rfl
/-- % r and fb -/
theorem mq_bs_ok {t b : Nat} {w : Int} (hg : tk_rg K W) (h : lc_bs K W t = some (b, w)) : (mq_at K W E fb t).1 = b ∧ ∀ p : Int, -999999999999999999 ≤ p ∧ p ≤ 999999999999999999 → lxx (w :: lc_s 9 p) ∧ ce E fb (w :: lc_s 9 p) (x_ad (mq_at K W E fb t).2 p) := by
  unfold lc_bs at h
  by_cases h1 : K t = 5 ∧ W t = 37
  · rw [if_pos h1] at h
    by_cases h2 : K (t + 1) = 3 ∧ W (t + 1) ≤ 31
    · rw [if_pos h2] at h
      cases h
      have hr := (hg (t + 1)).1 h2.1
      unfold mq_at
      rw [if_neg (by omega), if_pos h1.1]
      exact ⟨rfl, fun p hp => ⟨lxx_s (by omega) hp, ce_rg (by omega) hp⟩⟩
    · rw [if_neg h2] at h
      cases h
  · rw [if_neg h1] at h
    by_cases h2 : K t = 2 ∧ W t = 4
    · rw [if_pos h2] at h
      cases h
      unfold mq_at
      rw [if_neg (by omega), if_neg (by omega), if_neg (by omega), if_neg (by omega)]
      exact ⟨rfl, fun p hp => ⟨lxx_s (Or.inr rfl) hp, ce_fb hp⟩⟩
    · rw [if_neg h2] at h
      cases h
theorem mq_at_ok {t t1 : Nat} {c : List Int} (hg : tk_rg K W) (h : lc_at K W false t = some (t1, c)) : (mq_at K W E fb t).1 = t1 ∧ lxx c ∧ ce E fb c (mq_at K W E fb t).2 := by
  unfold lc_at at h
  by_cases h3 : K t = 3
  · rw [if_pos h3] at h
    cases h
    have hr := (hg t).1 h3
    unfold mq_at
    rw [if_pos h3]
    exact ⟨rfl, lxx_c hr.1, ce_c hr.1 hr.2⟩
  rw [if_neg h3] at h
  by_cases h5 : K t = 2 ∧ W t = 5
  · rw [if_pos h5] at h
    cases h
    unfold mq_at
    rw [if_neg h3, if_neg (by omega), if_pos h5.2]
    exact ⟨rfl, lxx_op (by first | decide | (simp; done) | (simp [ms_0]; done)), ce_cf⟩
  rw [if_neg h5] at h
  by_cases h6 : K t = 2 ∧ W t = 6
  · rw [if_pos h6] at h
    cases h
    unfold mq_at
    rw [if_neg h3, if_neg (by omega), if_neg (by omega), if_pos h6.2]
    exact ⟨rfl, lxx_op (by first | decide | (simp; done) | (simp [ms_0]; done)), ce_ob⟩
  rw [if_neg h6] at h
  cases hb : lc_bs K W t with
  | none => rw [hb] at h; cases h
  | some p =>
    obtain ⟨b, w⟩ := p
    rw [hb] at h
    have h : (if (false && lc_ad K W b) = true then some (b + 2, w :: lc_s 9 (lc_sg K W b)) else some (b, w :: lc_s 9 0)) = some (t1, c) := h
    rw [if_neg (by simp)] at h
    cases h
    obtain ⟨q1, q2⟩ := mq_bs_ok (E := E) (fb := fb) hg hb
    obtain ⟨q3, q4⟩ := q2 0 (by first | decide | (simp; done) | (simp [ms_0]; done))
    rw [x_ad0] at q4
    exact ⟨q1, q3, q4⟩
end MQ
end
section
/-! THE REFERENCE'S MEANINGS of expressions, by levels: they are what the code means. -/
def mv_8 (K W : Nat → Int) (E : ms_E) (fb : xX) (T t : Nat) (S : List mq_E) (q : mq_Q) (t1 : Nat) (c : List Int) : Prop := t < t1 ∧ t1 ≤ T ∧ lxx c ∧ ∃ v, ce E fb c v ∧ ∀ S2 q2, mq_fin E S (mq_ps v q) = some (S2, q2) → mq_to K W E fb (t, true, S, q) (t1, false, S2, q2)
def mv_b (K W : Nat → Int) (E : ms_E) (fb : xX) (T l t : Nat) (S : List mq_E) (q : mq_Q) (t1 : Nat) (c : List Int) : Prop := t < t1 ∧ t1 ≤ T ∧ lxx c ∧ ∃ v, ce E fb c v ∧ ∃ P q1, mq_to K W E fb (t, true, S, q) (t1, false, P ++ S, q1) ∧ (∀ e, e ∈ P → (l : Int) ≤ e.1) ∧ mq_fl P q1 = some (mq_ps v q) ∧ (au_bn (K t1) (W t1) < (l : Int) ∨ (l ≤ 4 ∧ au_bn (K t1) (W t1) = 4))
def mv_0 (K W : Nat → Int) (E : ms_E) (fb : xX) (T t : Nat) (S : List mq_E) (q : mq_Q) (t1 : Nat) (c : List Int) : Prop := t < t1 ∧ t1 ≤ T ∧ lxx c ∧ ∃ v, ce E fb c v ∧ ∃ P q1, mq_to K W E fb (t, true, S, q) (t1, false, P ++ S, q1) ∧ mq_all (P ++ S) q1 = mq_all S (mq_ps v q) ∧ (au_bn (K t1) (W t1) = 0 ∨ au_bn (K t1) (W t1) = 4) ∧ ¬ (K t1 = 5 ∧ W t1 = 63)
section MV
variable {K W : Nat → Int} {E : ms_E} {fb : xX} {T : Nat}
theorem mv_8_b {t t1 : Nat} {S : List mq_E} {q : mq_Q} {c : List Int} (h : mv_8 K W E fb T t S q t1 c) (hS : mq_top S ≠ 9) : mv_b K W E fb T 8 t S q t1 c := by
  obtain ⟨h1, h2, h3, v, h4, h5⟩ := h
  refine ⟨h1, h2, h3, v, h4, [], mq_ps v q, h5 _ _ (mq_fin_stop hS), fun e he => by simp at he, rfl, Or.inl ?_⟩
  have := au_bn_rg (K t1) (W t1)
  omega
theorem lc_pr_len {sub : Nat → Option (Nat × List Int)} {l : Nat} : ∀ (n t : Nat) (c : List Int) (t1 : Nat) (c1 : List Int), lc_pr sub K W l n t c = some (t1, c1) → c.length ≤ c1.length := by
  intro n
  induction n with
  | zero => intro t c t1 c1 h; cases h
  | succ n ih =>
    intro t c t1 c1 h
    rw [lc_pr] at h
    by_cases hb : au_bn (K t) (W t) = (l : Int)
    · rw [if_pos hb] at h
      by_cases ha : (decide (l = 6 ∧ W t = 43) && lc_al K W (t + 1)) = true
      · rw [if_pos ha] at h
        have := ih _ _ _ _ h
        rw [List.length_append] at this
        omega
      · rw [if_neg ha] at h
        cases hs : sub (t + 1) with
        | none => rw [hs] at h; cases h
        | some p =>
          obtain ⟨t2, c2⟩ := p
          rw [hs] at h
          (try dsimp only at h)
          by_cases h4 : l = 4
          · rw [if_pos h4] at h
            cases h
            rw [List.length_append]
            omega
          · rw [if_neg h4] at h
            have := ih _ _ _ _ h
            rw [List.length_append] at this
            omega
    · rw [if_neg hb] at h
      cases h
      exact Nat.le_refl _
/-- a number behind an operator -/
theorem mq_num {t : Nat} {S : List mq_E} {q : mq_Q} (h3 : K t = 3) (hS : mq_top S ≠ 9) : mq_to K W E fb (t, true, S, q) (t + 1, false, S, mq_ps (.inr (Int64.ofInt (W t))) q) := by
  refine mq_to_d ?_
  have ea : mq_at K W E fb t = (t + 1, .inr (Int64.ofInt (W t))) := by
    unfold mq_at
    rw [if_pos h3]
  have el : lc_at K W false t ≠ none := by
    unfold lc_at
    rw [if_pos h3]
    intro e
    cases e
  unfold mq_opd
  rw [if_neg (by rw [h3]; unfold lc_uy; simp), if_neg (by omega), if_neg el, ea]
  (try dsimp only)
  rw [mq_fin_stop hS]
theorem mq_bin {t : Nat} {P S : List mq_E} {q q2 : mq_Q} {l : Nat} (hb : au_bn (K t) (W t) = (l : Int)) (hl : 1 ≤ l) (hP : ∀ e, e ∈ P → (l : Int) ≤ e.1) (hf : mq_fl P q = some q2) (hS : mq_top S < (l : Int)) : mq_to K W E fb (t, false, P ++ S, q) (t + 1, true, ((l : Int), lc_op (K t) (W t), false, false) :: S, q2) := by
  refine mq_to_r ?_
  unfold mq_opr
  rw [if_neg (by omega), hb, mq_rd_app hP hf, mq_rd_stop hS]
theorem mv_pr {l : Nat} {sub : Nat → Option (Nat × List Int)} {S : List mq_E} {q : mq_Q} (hl : 1 ≤ l) (hl7 : l ≤ 7) (hg : tk_rg K W) (hT : K T = 0) (hS : mq_top S < (l : Int))
    (hsub : ∀ (t : Nat) (S2 : List mq_E) (q2 : mq_Q) (t1 : Nat) (c1 : List Int), t ≤ T → mq_top S2 = (l : Int) → sub t = some (t1, c1) → c1.length ≤ 60000 → mv_b K W E fb T (l + 1) t S2 q2 t1 c1) :
    ∀ (n t : Nat) (c : List Int) (P : List mq_E) (q1 : mq_Q) (t1 : Nat) (c1 : List Int) (v : xX), lc_pr sub K W l n t c = some (t1, c1) → c1.length ≤ 60000 → t ≤ T → (∀ e, e ∈ P → (l : Int) ≤ e.1) → mq_fl P q1 = some (mq_ps v q) → ce E fb c v → lxx c → (au_bn (K t) (W t) < (l : Int) + 1 ∨ (l + 1 ≤ 4 ∧ au_bn (K t) (W t) = 4)) →
      t ≤ t1 ∧ t1 ≤ T ∧ lxx c1 ∧ ∃ v1, ce E fb c1 v1 ∧ ∃ P2 q2, mq_to K W E fb (t, false, P ++ S, q1) (t1, false, P2 ++ S, q2) ∧ (∀ e, e ∈ P2 → (l : Int) ≤ e.1) ∧ mq_fl P2 q2 = some (mq_ps v1 q) ∧ (au_bn (K t1) (W t1) < (l : Int) ∨ (l ≤ 4 ∧ au_bn (K t1) (W t1) = 4)) := by
  intro n
  induction n with
  | zero => intro t c P q1 t1 c1 v h; cases h
  | succ n ih =>
    intro t c P q1 t1 c1 v h hlen ht hP hf hc hx hst
    rw [lc_pr] at h
    by_cases hb : au_bn (K t) (W t) = (l : Int)
    · rw [if_pos hb] at h
      have hk0 : K t ≠ 0 := fun e => by rw [e, au_bn_k0] at hb; omega
      have htT := lt_T hT ht hk0
      have s1 := mq_bin (E := E) (fb := fb) hb hl hP hf hS
      have one : ∀ e : mq_E, e ∈ [((l : Int), lc_op (K t) (W t), false, false)] → (l : Int) ≤ e.1 := by
        intro e he
        rw [List.mem_singleton.mp he]
        exact Int.le_refl _
      by_cases ha : (decide (l = 6 ∧ W t = 43) && lc_al K W (t + 1)) = true
      · rw [if_pos ha] at h
        have ha2 : (l = 6 ∧ W t = 43) ∧ lc_al K W (t + 1) = true := by simpa using ha
        obtain ⟨⟨hl6, hw⟩, hal⟩ := ha2
        have hal2 : K (t + 1) = 3 ∧ au_bn (K (t + 2)) (W (t + 2)) ≠ 7 := by simpa [lc_al] using hal
        have htT2 := lt_T hT htT (by rw [hal2.1]; (first | decide | (simp; done) | (simp [ms_0]; done)))
        have hr := (hg (t + 1)).1 hal2.1
        have hn := au_bn_rg (K (t + 2)) (W (t + 2))
        have eop : lc_op (K t) (W t) = 34 := by
          have hk5 := au_bn_6.mp (show au_bn (K t) (W t) = 6 by omega)
          unfold lc_op
          rw [if_neg (by omega), if_neg (by omega), if_pos hw]
        have s2 := mq_num (W := W) (E := E) (fb := fb) (t := t + 1) (S := ((l : Int), lc_op (K t) (W t), false, false) :: S) (q := mq_ps v q) hal2.1 (by show (l : Int) ≠ 9; omega)
        have f2 : mq_fl [((l : Int), lc_op (K t) (W t), false, false)] (mq_ps (.inr (Int64.ofInt (W (t + 1)))) (mq_ps v q)) = some (mq_ps (x_ad v (W (t + 1))) q) := by
          rw [mq_fl]
          (try dsimp only)
          rw [mq_b_ps, eop, xe2_34]
          rfl
        obtain ⟨g1, g2, g3, v1, g4, P2, q2, g5, g6⟩ := ih (t + 2) (c ++ 35 :: lc_u 9 (W (t + 1))) [((l : Int), lc_op (K t) (W t), false, false)] _ t1 c1 _ h hlen htT2 one f2 (ce_35 hr hc) (lxx_a hx (lxx_35 hr)) (Or.inl (by omega))
        exact ⟨by omega, g2, g3, v1, g4, P2, q2, mq_to_tr s1 (mq_to_tr s2 g5), g6⟩
      · rw [if_neg ha] at h
        cases hs : sub (t + 1) with
        | none => rw [hs] at h; cases h
        | some p =>
          obtain ⟨t2, c2⟩ := p
          rw [hs] at h
          (try dsimp only at h)
          have w := lc_op_ok (K t) (W t)
          have l2 : c2.length ≤ 60000 := by
            by_cases h4 : l = 4
            · rw [if_pos h4] at h
              cases h
              simp only [List.length_append] at hlen
              omega
            · rw [if_neg h4] at h
              have := lc_pr_len _ _ _ _ _ h
              simp only [List.length_append] at this
              omega
          obtain ⟨g1, g2, g3, v2, g4, P2, q2, g5, g6, g7, g8⟩ := hsub (t + 1) (((l : Int), lc_op (K t) (W t), false, false) :: S) (mq_ps v q) t2 c2 htT rfl hs l2
          have e1 : P2 ++ ((l : Int), lc_op (K t) (W t), false, false) :: S = (P2 ++ [((l : Int), lc_op (K t) (W t), false, false)]) ++ S := by simp
          rw [e1] at g5
          have f2 : mq_fl (P2 ++ [((l : Int), lc_op (K t) (W t), false, false)]) q2 = some (mq_ps (xe2 (lc_op (K t) (W t)) v v2) q) := by
            rw [mq_fl_app g7, mq_fl]
            (try dsimp only)
            rw [mq_b_ps]
            rfl
          have hP2 : ∀ e, e ∈ P2 ++ [((l : Int), lc_op (K t) (W t), false, false)] → (l : Int) ≤ e.1 := by
            intro e he
            rcases List.mem_append.mp he with he | he
            · have := g6 e he
              omega
            · exact one e he
          have hc2 : ce E fb (c ++ (c2 ++ [lc_op (K t) (W t)])) (xe2 (lc_op (K t) (W t)) v v2) := ce_2 w hc g4
          have hx2 : lxx (c ++ (c2 ++ [lc_op (K t) (W t)])) := lxx_a hx (lxx_a g3 (lxx_op (by omega)))
          by_cases h4 : l = 4
          · rw [if_pos h4] at h
            cases h
            have hn := au_bn_rg (K t1) (W t1)
            refine ⟨by omega, g2, hx2, _, hc2, _, q2, mq_to_tr s1 g5, hP2, f2, ?_⟩
            by_cases h9 : au_bn (K t1) (W t1) = 4
            · exact Or.inr ⟨by omega, h9⟩
            · refine Or.inl ?_
              rcases g8 with g8 | g8
              · omega
              · omega
          · rw [if_neg h4] at h
            obtain ⟨k1, k2, k3, v1, k4, P3, q3, k5, k6⟩ := ih t2 (c ++ (c2 ++ [lc_op (K t) (W t)])) _ q2 t1 c1 _ h hlen g2 hP2 f2 hc2 hx2 (by
              rcases g8 with g8 | g8
              · exact Or.inl (by omega)
              · exact Or.inr g8)
            exact ⟨by omega, k2, k3, v1, k4, P3, q3, mq_to_tr s1 (mq_to_tr g5 k5), k6⟩
    · rw [if_neg hb] at h
      cases h
      refine ⟨Nat.le_refl _, ht, hx, v, hc, P, q1, mq_to_rf, hP, hf, ?_⟩
      rcases hst with hst | ⟨h4, h5⟩
      · exact Or.inl (by omega)
      · exact Or.inr ⟨by omega, h5⟩
theorem ch_len {c2 c3 : List Int} : (lc_ch c2 c3).length = c2.length + c3.length + 6 := by
  unfold lc_ch
  simp only [List.length_cons, List.length_append, lc_by_len]
  omega
theorem ce_ch {c1 c2 c3 : List Int} {x y z : xX} (hl : c2.length ≤ 60000) (hl3 : c3.length ≤ 60000) (h1 : ce E fb c1 x) (h2 : ce E fb c2 y) (h3 : ce E fb c3 z) : ce E fb (c1 ++ lc_ch c2 c3) (mq_ch x y z) := by
  match x, h1 with
  | .inl e, h1 => exact ce_ft h1
  | .inr t, h1 =>
    by_cases h : t.toInt = 0
    · rw [show mq_ch (.inr t) y z = z from if_pos h]
      exact ce_3z (by omega) (by omega) h1 h h3
    · rw [show mq_ch (.inr t) y z = y from if_neg h]
      exact ce_3n (by omega) h1 h h2
theorem mq_un_c {t : Nat} {c : List Int} {x : xX} (hg : tk_rg K W) (hu : lc_uy (K t) (W t) = true) (h : ce E fb c x) (hx : lxx c) : ce E fb (c ++ lc_un (K t) (W t)) (mq_1 E (mq_c (K t) (W t)) x) ∧ lxx (c ++ lc_un (K t) (W t)) := by
  have hu2 : K t = 4 ∨ (K t = 5 ∧ (W t = 45 ∨ W t = 126)) ∨ (K t = 2 ∧ W t = 7) := of_decide_eq_true hu
  unfold lc_un mq_c
  by_cases h4 : K t = 4
  · have hr := (hg t).2 h4
    rw [if_neg (show ¬ K t = 2 by omega), if_pos h4, if_pos h4]
    unfold mq_1
    rw [if_neg (show ¬ 256 + W t < 256 by omega), show 256 + W t - 256 = W t by omega]
    by_cases h8 : W t = 8
    · rw [if_pos h8]
      refine ⟨?_, lxx_a hx (lxx_op (Or.inl rfl))⟩
      have e : xe1 E 148 (W t) x = xe1 E 6 0 x := by
        rw [h8]
        match x with
        | .inl e => rfl
        | .inr t => rfl
      rw [e]
      exact ce_un (Or.inl rfl) h
    · rw [if_neg h8]
      exact ⟨ce_rd h, lxx_a hx lxx_148⟩
  · by_cases h2 : K t = 2
    · rw [if_pos h2, if_neg h4, if_pos h2]
      refine ⟨?_, lxx_a hx (lxx_op (Or.inr (Or.inl rfl)))⟩
      unfold mq_1
      rw [if_pos (by first | decide | (simp; done) | (simp [ms_0]; done))]
      exact ce_un (Or.inr (Or.inl rfl)) h
    · rw [if_neg h2, if_neg h4, if_neg h4, if_neg h2]
      by_cases h45 : W t = 45
      · rw [if_pos h45, if_pos h45]
        refine ⟨?_, lxx_a hx (lxx_op (by first | decide | (simp; done) | (simp [ms_0]; done)))⟩
        unfold mq_1
        rw [if_pos (by first | decide | (simp; done) | (simp [ms_0]; done))]
        exact ce_un (Or.inr (Or.inr (Or.inl rfl))) h
      · rw [if_neg h45, if_neg h45]
        refine ⟨?_, lxx_a hx (lxx_op (by first | decide | (simp; done) | (simp [ms_0]; done)))⟩
        unfold mq_1
        rw [if_pos (by first | decide | (simp; done) | (simp [ms_0]; done))]
        exact ce_un (Or.inr (Or.inr (Or.inr rfl))) h
theorem mv_main (hg : tk_rg K W) (hT : K T = 0) : ∀ f : Nat,
    (∀ (o : Int) (t : Nat) (S : List mq_E) (q : mq_Q) (t1 : Nat) (c : List Int), t ≤ T → lc_ps K W f 8 o t = some (t1, c) → c.length ≤ 60000 → mv_8 K W E fb T t S q t1 c) ∧
    (∀ l : Nat, 1 ≤ l → l ≤ 7 → ∀ (o : Int) (t : Nat) (S : List mq_E) (q : mq_Q) (t1 : Nat) (c : List Int), t ≤ T → mq_top S < (l : Int) → lc_ps K W f l o t = some (t1, c) → c.length ≤ 60000 → mv_b K W E fb T l t S q t1 c) ∧
    (∀ (o : Int) (t : Nat) (S : List mq_E) (q : mq_Q) (t1 : Nat) (c : List Int), t ≤ T → mq_top S < 1 → lc_ps K W f 0 o t = some (t1, c) → c.length ≤ 60000 → mv_0 K W E fb T t S q t1 c) := by
  intro f
  induction f with
  | zero =>
    refine ⟨?_, ?_, ?_⟩
    · intro o t S q t1 c _ h; cases h
    · intro l _ _ o t S q t1 c _ _ h; cases h
    · intro o t S q t1 c _ _ h; cases h
  | succ f ih =>
    obtain ⟨ih8, ihb, ih0⟩ := ih
    refine ⟨?_, ?_, ?_⟩
    · intro o t S q t1 c ht h hlen
      rw [lc_ps, if_neg (by first | decide | (simp; done) | (simp [ms_0]; done)), if_pos rfl] at h
      by_cases hu : lc_uy (K t) (W t) = true
      · rw [if_pos hu] at h
        have hk : K t ≠ 0 := fun e => by rw [e, lc_uy_k0] at hu; cases hu
        have ht1 := lt_T hT ht hk
        by_cases h12 : 12 ≤ o
        · rw [if_pos h12] at h; cases h
        rw [if_neg h12] at h
        cases hs : lc_ps K W f 8 (o + 1) (t + 1) with
        | none => rw [hs] at h; cases h
        | some p =>
          obtain ⟨t2, c2⟩ := p
          rw [hs] at h
          cases h
          have s1 : mq_to K W E fb (t, true, S, q) (t + 1, true, (9, mq_c (K t) (W t), false, false) :: S, q) := mq_to_d (by unfold mq_opd; rw [if_pos hu])
          obtain ⟨g1, g2, g3, v, g4, g5⟩ := ih8 (o + 1) (t + 1) ((9, mq_c (K t) (W t), false, false) :: S) q _ _ ht1 hs (by rw [List.length_append] at hlen; omega)
          have g6 := mq_un_c hg hu g4 g3
          refine ⟨by omega, g2, g6.2, _, g6.1, fun S2 q2 e => mq_to_tr s1 (g5 S2 q2 ?_)⟩
          rw [mq_fin_9]
          exact e
      · rw [if_neg hu] at h
        by_cases hp : K t = 5 ∧ W t = 40
        · rw [if_pos hp] at h
          have ht1 := lt_T hT ht (by omega)
          by_cases h12 : 12 ≤ o
          · rw [if_pos h12] at h; cases h
          rw [if_neg h12] at h
          cases hs : lc_ps K W f 0 (o + 1) (t + 1) with
          | none => rw [hs] at h; cases h
          | some p =>
            obtain ⟨t2, c2⟩ := p
            rw [hs] at h
            (try dsimp only at h)
            by_cases hk : K t2 = 5 ∧ W t2 = 41
            · rw [if_pos hk] at h
              cases h
              have s1 : mq_to K W E fb (t, true, S, q) (t + 1, true, (-1, 0, false, false) :: S, q) := mq_to_d (by unfold mq_opd; rw [if_neg hu, if_pos hp])
              obtain ⟨g1, g2, g3, v, g4, P, q1, g5, g6, g7, g8⟩ := ih0 (o + 1) (t + 1) ((-1, 0, false, false) :: S) q t2 c ht1 (by show (-1 : Int) < 1; (first | decide | (simp; done) | (simp [ms_0]; done))) hs hlen
              have ht2 := lt_T hT g2 (by omega)
              rw [mq_all_stop (S := (-1, 0, false, false) :: S) (by show (-1 : Int) < 1; decide) (by show (-1 : Int) ≠ -3; decide)] at g6
              have hn0 : au_bn (K t2) (W t2) = 0 := by rw [hk.1, hk.2]; (first | decide | (simp; done) | (simp [ms_0]; done))
              refine ⟨by omega, ht2, g3, v, g4, fun S2 q2 e => mq_to_tr s1 (mq_to_tr g5 (mq_to_r ?_))⟩
              unfold mq_opr
              rw [if_pos hn0, if_neg g8, g6]
              show (if K t2 = 5 ∧ W t2 = 58 ∧ (-1 : Int) = -2 then _ else if K t2 = 5 ∧ W t2 = 41 ∧ (-1 : Int) = -1 then (match mq_fin E S (mq_ps v q) with
                | none => none
                | some r2 => some (Sum.inl (t2 + 1, false, r2))) else _) = _
              rw [if_neg (by omega), if_pos ⟨hk.1, hk.2, rfl⟩, e]
            · rw [if_neg hk] at h; cases h
        · rw [if_neg hp] at h
          have g := lc_at_lt hT ht h
          obtain ⟨g1, g2, g3⟩ := mq_at_ok (E := E) (fb := fb) hg h
          refine ⟨g.1, g.2, g2, _, g3, fun S2 q2 e => mq_to_d ?_⟩
          unfold mq_opd
          rw [if_neg hu, if_neg hp, if_neg (by rw [h]; intro e9; cases e9), e, g1]
    · intro l hl1 hl7 o t S q t1 c ht hS h hlen
      rw [lc_ps, if_neg (by omega), if_neg (by omega)] at h
      have hsub : ∀ (t : Nat) (S2 : List mq_E) (q2 : mq_Q) (t1 : Nat) (c1 : List Int), t ≤ T → mq_top S2 < (l : Int) + 1 → lc_ps K W f (l + 1) o t = some (t1, c1) → c1.length ≤ 60000 → mv_b K W E fb T (l + 1) t S2 q2 t1 c1 := by
        intro t S2 q2 t1 c1 ht hS h hlen
        by_cases h7 : l = 7
        · subst h7
          exact mv_8_b (ih8 o t S2 q2 t1 c1 ht h hlen) (by omega)
        · exact ihb (l + 1) (by omega) (by omega) o t S2 q2 t1 c1 ht (by omega) h hlen
      have hpr := mv_pr (K := K) (W := W) (E := E) (fb := fb) (T := T) (l := l) (sub := fun t' => lc_ps K W f (l + 1) o t') (S := S) (q := q) hl1 hl7 hg hT hS (fun t' S2 q2 t1 c1 k1 k2 k3 k4 => hsub t' S2 q2 t1 c1 k1 (by omega) k3 k4)
      by_cases hcm : (decide (l = 6) && lc_cm K W t) = true
      · rw [if_pos hcm] at h
        have h2 : l = 6 ∧ lc_cm K W t = true := by simpa using hcm
        obtain ⟨h6, h3⟩ := h2
        obtain ⟨b, x, q1, q2, q3⟩ := lc_cm_at h3
        have g := lc_bs_lt (T := T) q1
        have g2 := lc_ad_lt (T := T) q2
        have hb := g.2.1 hT ht
        have hb2 := g2.1 hT hb
        have hb1 : b + 1 ≤ T := by omega
        rw [q3] at h
        (try dsimp only at h)
        have had : (K b = 5 ∧ (W b = 43 ∨ W b = 45)) ∧ (K (b + 1) = 3 ∧ au_bn (K (b + 2)) (W (b + 2)) ≠ 7) := by simpa [lc_ad, lc_al] using q2
        have hr := (hg (b + 1)).1 had.2.1
        obtain ⟨m1, m2⟩ := mq_bs_ok (E := E) (fb := fb) hg q1
        have hsg : -999999999999999999 ≤ lc_sg K W b ∧ lc_sg K W b ≤ 999999999999999999 := by
          unfold lc_sg
          split
          · omega
          · omega
        obtain ⟨m3, m4⟩ := m2 _ hsg
        have s1 : mq_to K W E fb (t, true, S, q) (b, false, [] ++ S, mq_ps (mq_at K W E fb t).2 q) := by
          refine mq_to_d ?_
          have el : lc_at K W false t ≠ none := by
            unfold lc_at
            rw [if_neg g.2.2.1, if_neg g.2.2.2.2.2.1, if_neg g.2.2.2.2.2.2, q1]
            (try dsimp only)
            rw [if_neg (by simp)]
            intro e
            cases e
          unfold mq_opd
          rw [if_neg (by rw [g.2.2.2.1]; (first | decide | (simp; done) | (simp [ms_0]; done))), if_neg g.2.2.2.2.1, if_neg el, mq_fin_stop (by omega), m1]
          rfl
        have hb6 : au_bn (K b) (W b) = ((6 : Nat) : Int) := au_bn_6.mpr had.1
        have s2 := mq_bin (E := E) (fb := fb) (t := b) (P := []) (S := S) (q := mq_ps (mq_at K W E fb t).2 q) hb6 (by first | decide | (simp; done) | (simp [ms_0]; done)) (fun e he => by simp at he) rfl (by omega)
        have s3 := mq_num (W := W) (E := E) (fb := fb) (t := b + 1) (S := (((6 : Nat) : Int), lc_op (K b) (W b), false, false) :: S) (q := mq_ps (mq_at K W E fb t).2 q) had.2.1 (by show ((6 : Nat) : Int) ≠ 9; (first | decide | (simp; done) | (simp [ms_0]; done)))
        have f2 : mq_fl [(((6 : Nat) : Int), lc_op (K b) (W b), false, false)] (mq_ps (.inr (Int64.ofInt (W (b + 1)))) (mq_ps (mq_at K W E fb t).2 q)) = some (mq_ps (x_ad (mq_at K W E fb t).2 (lc_sg K W b)) q) := by
          rw [mq_fl]
          (try dsimp only)
          rw [mq_b_ps]
          have e : xe2 (lc_op (K b) (W b)) (mq_at K W E fb t).2 (.inr (Int64.ofInt (W (b + 1)))) = x_ad (mq_at K W E fb t).2 (lc_sg K W b) := by
            unfold lc_sg
            by_cases h43 : W b = 43
            · rw [if_pos h43, ← xe2_34]
              congr 1
              unfold lc_op
              rw [if_neg (by omega), if_neg (by omega), if_pos h43]
            · rw [if_neg h43, ← xe2_28]
              congr 1
              unfold lc_op
              rw [if_neg (by omega), if_neg (by omega), if_neg h43, if_pos (by omega)]
          rw [e]
          rfl
        obtain ⟨k1, k2, k3, v1, k4, P2, q5, k5, k6⟩ := hpr f (b + 2) _ [(((6 : Nat) : Int), lc_op (K b) (W b), false, false)] _ t1 c _ h hlen hb2 (fun e he => by rw [List.mem_singleton.mp he]; show (l : Int) ≤ ((6 : Nat) : Int); omega) f2 m4 m3 (Or.inl (by omega))
        exact ⟨by omega, k2, k3, v1, k4, P2, q5, mq_to_tr s1 (mq_to_tr s2 (mq_to_tr s3 k5)), k6⟩
      · rw [if_neg hcm] at h
        cases hs : lc_ps K W f (l + 1) o t with
        | none => rw [hs] at h; cases h
        | some p =>
          obtain ⟨t2, c2⟩ := p
          rw [hs] at h
          (try dsimp only at h)
          obtain ⟨g1, g2, g3, v2, g4, P, q1, g5, g6, g7, g8⟩ := hsub t S q t2 c2 ht (by omega) hs (by have := lc_pr_len _ _ _ _ _ h; omega)
          obtain ⟨k1, k2, k3, v1, k4, P2, q5, k5, k6⟩ := hpr f t2 c2 P q1 t1 c v2 h hlen g2 (fun e he => by have := g6 e he; omega) g7 g4 g3 (by
            rcases g8 with g8 | g8
            · exact Or.inl (by omega)
            · exact Or.inr g8)
          exact ⟨by omega, k2, k3, v1, k4, P2, q5, mq_to_tr g5 k5, k6⟩
    · intro o t S q t1 c ht hS h hlen
      rw [lc_ps, if_pos rfl] at h
      cases hs : lc_ps K W f 1 o t with
      | none => rw [hs] at h; cases h
      | some p =>
        obtain ⟨t2, c1⟩ := p
        rw [hs] at h
        (try dsimp only at h)
        have get : c1.length ≤ 60000 → mv_b K W E fb T 1 t S q t2 c1 := fun hl => ihb 1 (by first | decide | (simp; done) | (simp [ms_0]; done)) (by first | decide | (simp; done) | (simp [ms_0]; done)) o t S q t2 c1 ht hS hs hl
        by_cases hq : K t2 = 5 ∧ W t2 = 63
        · rw [if_pos hq] at h
          by_cases h12 : 12 ≤ o
          · rw [if_pos h12] at h; cases h
          rw [if_neg h12] at h
          cases hs2 : lc_ps K W f 0 (o + 1) (t2 + 1) with
          | none => rw [hs2] at h; cases h
          | some p2 =>
            obtain ⟨t3, c2⟩ := p2
            rw [hs2] at h
            (try dsimp only at h)
            by_cases hk : K t3 = 5 ∧ W t3 = 58
            · rw [if_pos hk] at h
              cases hs3 : lc_ps K W f 0 (o + 1) (t3 + 1) with
              | none => rw [hs3] at h; cases h
              | some p3 =>
                obtain ⟨t4, c3⟩ := p3
                rw [hs3] at h
                cases h
                have ll : c1.length ≤ 60000 ∧ c2.length ≤ 60000 ∧ c3.length ≤ 60000 := by
                  rw [List.length_append, ch_len] at hlen
                  omega
                obtain ⟨g1, g2, g3, v1, g4, P, q1, g5, g6, g7, g8⟩ := get ll.1
                have g6' : ∀ e, e ∈ P → 1 ≤ e.1 := fun e he => by have := g6 e he; omega
                have hn0 : au_bn (K t2) (W t2) = 0 := by rw [hq.1, hq.2]; (first | decide | (simp; done) | (simp [ms_0]; done))
                have ht2 := lt_T hT g2 (by omega)
                have stp : ∀ (v2 v3 : xX), ∃ q3 wl so, mq_as (mq_ps v1 q) = some (q3, wl, so) ∧ mq_el wl so (mq_ps v3 (mq_co wl so (mq_ps v2 q3))) = some (mq_ps (mq_ch v1 v2 v3) q) := fun v2 v3 => mq_ch_ps
                obtain ⟨q3, wl, so, a1, -⟩ := stp v1 v1
                have s1 : mq_to K W E fb (t2, false, P ++ S, q1) (t2 + 1, true, (-2, 0, wl, so) :: S, q3) := by
                  refine mq_to_r ?_
                  unfold mq_opr
                  rw [if_pos hn0, if_pos hq, mq_rd_app g6' g7, mq_rd_stop hS]
                  (try dsimp only)
                  rw [a1]
                obtain ⟨m1, m2, m3, v2, m4, P2, q4, m5, m6, m7, m8⟩ := ih0 (o + 1) (t2 + 1) ((-2, 0, wl, so) :: S) q3 t3 c2 ht2 (by show (-2 : Int) < 1; (first | decide | (simp; done) | (simp [ms_0]; done))) hs2 ll.2.1
                rw [mq_all_stop (S := (-2, 0, wl, so) :: S) (by show (-2 : Int) < 1; decide) (by show (-2 : Int) ≠ -3; decide)] at m6
                have hn2 : au_bn (K t3) (W t3) = 0 := by rw [hk.1, hk.2]; (first | decide | (simp; done) | (simp [ms_0]; done))
                have ht3 := lt_T hT m2 (by omega)
                have s2 : mq_to K W E fb (t3, false, P2 ++ (-2, 0, wl, so) :: S, q4) (t3 + 1, true, (-3, 0, wl, so) :: S, mq_co wl so (mq_ps v2 q3)) := by
                  refine mq_to_r ?_
                  unfold mq_opr
                  rw [if_pos hn2, if_neg m8, m6]
                  show (if K t3 = 5 ∧ W t3 = 58 ∧ (-2 : Int) = -2 then some (Sum.inl (t3 + 1, true, (-3, 0, wl, so) :: S, mq_co wl so (mq_ps v2 q3))) else _) = _
                  rw [if_pos ⟨hk.1, hk.2, rfl⟩]
                obtain ⟨r1, r2, r3, v3, r4, P3, q5, r5, r6, r7, r8⟩ := ih0 (o + 1) (t3 + 1) ((-3, 0, wl, so) :: S) (mq_co wl so (mq_ps v2 q3)) t1 c3 ht3 (by show (-3 : Int) < 1; (first | decide | (simp; done) | (simp [ms_0]; done))) hs3 ll.2.2
                obtain ⟨q3', wl', so', b1, b2⟩ := stp v2 v3
                rw [a1] at b1
                cases b1
                rw [mq_all_3 b2] at r6
                have e3 : P3 ++ (-3, 0, wl, so) :: S = (P3 ++ [(-3, 0, wl, so)]) ++ S := by simp
                rw [e3] at r5 r6
                exact ⟨by omega, r2, lxx_a g3 (lxx_ch m3 r3), _, ce_ch ll.2.1 ll.2.2 g4 m4 r4, _, q5, mq_to_tr g5 (mq_to_tr s1 (mq_to_tr m5 (mq_to_tr s2 r5))), r6, r7, r8⟩
            · rw [if_neg hk] at h; cases h
        · rw [if_neg hq] at h
          cases h
          obtain ⟨g1, g2, g3, v1, g4, P, q1, g5, g6, g7, g8⟩ := get hlen
          have g6' : ∀ e, e ∈ P → 1 ≤ e.1 := fun e he => by have := g6 e he; omega
          have hn := au_bn_rg (K t1) (W t1)
          refine ⟨g1, g2, g3, v1, g4, P, q1, g5, mq_all_app g6' g7, ?_, hq⟩
          rcases g8 with g8 | g8
          · exact Or.inl (by omega)
          · exact Or.inr g8.2
/-- an expression from t on, to its end -/
theorem mv_choice (hg : tk_rg K W) (hT : K T = 0) {f t t1 : Nat} {o : Int} {c : List Int} {m : Int ⊕ Bool} (ht : t ≤ T) (h : lc_ps K W f 0 o t = some (t1, c)) (hl : c.length ≤ 60000) (hn : au_bn (K t1) (W t1) = 0) : t < t1 ∧ t1 ≤ T ∧ lxx c ∧ ∃ v, ce E fb c v ∧ ∃ k, mq_run K W E fb k (t, true, [], ([], m)) = some (some (t1, mq_ps v ([], m))) := by
  obtain ⟨g1, g2, g3, v, g4, P, q1, ⟨k, g5⟩, g6, g7, g8⟩ := (mv_main (E := E) (fb := fb) hg hT f).2.2 o t [] ([], m) t1 c ht (by show (-11 : Int) < 1; (first | decide | (simp; done) | (simp [ms_0]; done))) h hl
  refine ⟨g1, g2, g3, v, g4, k + 1, ?_⟩
  rw [g5, mq_run]
  unfold mq_opr
  rw [if_pos hn, if_neg g8, g6]
  rfl
end MV
end
section
/-! FRAME's base, as the reference's means asks for it. -/
def x_en (E : ms_E) (q : Int ⊕ (Nat × ms_S)) : xX := match q with
  | .inl e => .inl e
  | .inr y => ms_bs E y.2
def x_an (v : Int32) (L2 : Nat → Nat → Int64) (x : xX) : Prop := match x with
  | .inl e => v.toInt = e
  | .inr y => v.toInt = 0 ∧ L2 121 39 = y
section RX1
variable {n sl : Nat} {SH : Nat → Nat × Nat} {FI F2 F3 : Nat → Nat → Int32} {FL L2 L3 : Nat → Nat → Int64} {FR : Nat → Nat → Option Nat} {st : hS} {E : ms_E} {v : Int32}
theorem r_exec1 {A f : Nat} {bs : List Int32} {a2 a3 : Int32} (hb : bk FI SH 124 A bs) (hbl : bs.length ≤ 600) (h2 : a2.toInt = A) (h3 : a3.toInt = ((A + bs.length : Nat) : Int)) (hE : rE FI FL SH E) (hf : (FI 121 30).toInt = f) (hf1 : f ≤ 1000) (ho : (FI 121 29).toInt = 0) (h : RX12_exec (1 : Int32) a2 a3 n sl SH FI FL FR v st) : ∃ q, ms_R E 1 0 bs 0 f ([], ms_0, []) q ∧ ∃ F2 L2, st = (n, sl, SH, F2, L2, FR) ∧ xr FI FL F2 L2 ∧ F2 143 = FI 143 ∧ F2 145 = FI 145 ∧ F2 146 = FI 146 ∧ F2 147 = FI 147 ∧ L2 144 = FL 144 ∧ F2 121 46 = FI 121 46 ∧ F2 121 47 = FI 121 47 ∧ x_an v L2 (x_en E q) := by
  have hk := kX12_exec h
  obtain ⟨F9, L9, e9, xr9⟩ := xr_kq hk (by first | decide | (simp; done) | (simp [ms_0]; done))
  have row : ∀ c, k_no mX12_exec c = true → F9 c = FI c := fun c hc => by
    have := kq_cell hk hc
    rw [e9] at this
    exact this
  have r46 : F9 121 46 = FI 121 46 := by
    have := kq_fld (c := 121) (k := 46) hk (by first | decide | (simp; done) | (simp [ms_0]; done))
    rw [e9] at this
    exact this
  have r47 : F9 121 47 = FI 121 47 := by
    have := kq_fld (c := 121) (k := 47) hk (by first | decide | (simp; done) | (simp [ms_0]; done))
    rw [e9] at this
    exact this
  have l144 : L9 144 = FL 144 := by
    have := kq_fl (c := 144) hk (by first | decide | (simp; done) | (simp [ms_0]; done))
    rw [e9] at this
    exact this
  obtain ⟨u0, n0, sl0, SH0, FI0, FL0, FR0, hcl, g, h⟩ := h
  obtain ⟨-, -, -, -, -, -, ec⟩ := hcl
  rw [show ((1 : Int32)).toInt.toNat = 1 by first | decide | (simp; done) | (simp [ms_0]; done)] at ec
  cases ec
  have eC : ∀ c, c ≠ 128 → c ≠ 129 → c ≠ 135 → c ≠ 136 → c ≠ 142 → (h_up (h_up (h_up (h_up (h_up FI 128 1 (0 : Int32)) 129 1 (0 : Int32)) 135 1 (0 : Int32)) 136 1 (0 : Int32)) 142 1 (0 : Int32)) c = FI c := fun c c1 c2 c3 c4 c5 => by rw [h_up_nc c5, h_up_nc c4, h_up_nc c3, h_up_nc c2, h_up_nc c1]
  have z0 : ((0 : Int32)).toInt = 0 := by first | decide | (simp; done) | (simp [ms_0]; done)
  have d0 : ((h_up (h_up (h_up (h_up (h_up FI 128 1 (0 : Int32)) 129 1 (0 : Int32)) 135 1 (0 : Int32)) 136 1 (0 : Int32)) 142 1 (0 : Int32)) 142 1).toInt = 0 := by rw [h_up_eq]; exact z0
  have hv0 : rv (h_up (h_up (h_up (h_up (h_up FI 128 1 (0 : Int32)) 129 1 (0 : Int32)) 135 1 (0 : Int32)) 136 1 (0 : Int32)) 142 1 (0 : Int32)) FL SH 1 ([], ms_0, []) := by
    refine ⟨?_, by first | decide | (simp; done) | (simp [ms_0]; done), trivial, ⟨?_, Or.inl ⟨rfl, rfl⟩, fun e => absurd e (by first | decide | (simp; done) | (simp [ms_0]; done)), fun e => absurd e (by first | decide | (simp; done) | (simp [ms_0]; done))⟩, ?_, by first | decide | (simp; done) | (simp [ms_0]; done), ?_, by first | decide | (simp; done) | (simp [ms_0]; done), by first | decide | (simp; done) | (simp [ms_0]; done), trivial⟩
    · rw [h_up_nc (by first | decide | (simp; done) | (simp [ms_0]; done)), h_up_nc (by first | decide | (simp; done) | (simp [ms_0]; done)), h_up_nc (by first | decide | (simp; done) | (simp [ms_0]; done)), h_up_nc (by first | decide | (simp; done) | (simp [ms_0]; done)), h_up_eq]; exact z0
    · rw [h_up_nc (by first | decide | (simp; done) | (simp [ms_0]; done)), h_up_eq]; exact z0
    · rw [h_up_nc (by first | decide | (simp; done) | (simp [ms_0]; done)), h_up_nc (by first | decide | (simp; done) | (simp [ms_0]; done)), h_up_nc (by first | decide | (simp; done) | (simp [ms_0]; done)), h_up_eq]; exact z0
    · rw [h_up_nc (by first | decide | (simp; done) | (simp [ms_0]; done)), h_up_nc (by first | decide | (simp; done) | (simp [ms_0]; done)), h_up_eq]; exact z0
  generalize h_up (h_up (h_up (h_up (h_up FI 128 1 (0 : Int32)) 129 1 (0 : Int32)) 135 1 (0 : Int32)) 136 1 (0 : Int32)) 142 1 (0 : Int32) = FC at h eC d0 hv0
  have e121 : FC 121 = FI 121 := eC 121 (by first | decide | (simp; done) | (simp [ms_0]; done)) (by first | decide | (simp; done) | (simp [ms_0]; done)) (by first | decide | (simp; done) | (simp [ms_0]; done)) (by first | decide | (simp; done) | (simp [ms_0]; done)) (by first | decide | (simp; done) | (simp [ms_0]; done))
  have hEC : rE FC FL SH E := rE_fr hE (eC 123 (by first | decide | (simp; done) | (simp [ms_0]; done)) (by first | decide | (simp; done) | (simp [ms_0]; done)) (by first | decide | (simp; done) | (simp [ms_0]; done)) (by first | decide | (simp; done) | (simp [ms_0]; done)) (by first | decide | (simp; done) | (simp [ms_0]; done))) (eC 124 (by first | decide | (simp; done) | (simp [ms_0]; done)) (by first | decide | (simp; done) | (simp [ms_0]; done)) (by first | decide | (simp; done) | (simp [ms_0]; done)) (by first | decide | (simp; done) | (simp [ms_0]; done)) (by first | decide | (simp; done) | (simp [ms_0]; done))) (eC 125 (by first | decide | (simp; done) | (simp [ms_0]; done)) (by first | decide | (simp; done) | (simp [ms_0]; done)) (by first | decide | (simp; done) | (simp [ms_0]; done)) (by first | decide | (simp; done) | (simp [ms_0]; done)) (by first | decide | (simp; done) | (simp [ms_0]; done))) (fun k _ => by rw [e121]) (fun _ _ => rfl) rfl
  obtain ⟨q, hq, hrc⟩ := rl_run (a1 := (1 : Int32)) (a2 := a2) (a3 := a3) g 1 0 f A 0 bs ([], ms_0, []) 1 a2 a2 a3 FC FL (by first | decide | (simp; done) | (simp [ms_0]; done)) (by first | decide | (simp; done) | (simp [ms_0]; done)) (fun e => absurd e (by first | decide | (simp; done) | (simp [ms_0]; done))) (by rw [e121]; exact ho) (by first | decide | (simp; done) | (simp [ms_0]; done)) (bk_fr hb (eC 124 (by first | decide | (simp; done) | (simp [ms_0]; done)) (by first | decide | (simp; done) | (simp [ms_0]; done)) (by first | decide | (simp; done) | (simp [ms_0]; done)) (by first | decide | (simp; done) | (simp [ms_0]; done)) (by first | decide | (simp; done) | (simp [ms_0]; done)))) (by omega) (by rw [h2]; omega) (by omega) h2 h3 hEC hv0 (by rw [e121]; exact hf) hf1 (by omega) (by omega) h
  refine ⟨q, hq, F9, L9, e9, xr9, row 143 (by first | decide | (simp; done) | (simp [ms_0]; done)), row 145 (by first | decide | (simp; done) | (simp [ms_0]; done)), row 146 (by first | decide | (simp; done) | (simp [ms_0]; done)), row 147 (by first | decide | (simp; done) | (simp [ms_0]; done)), l144, r46, r47, ?_⟩
  match q, hq, hrc with
  | .inl e, _, hrc => exact hrc
  | .inr y, _, ⟨g2, F2, L2, hg2, k3, hv3, gf3, e3, e3b⟩ =>
    cases g2 with
    | zero => exact k3.elim
    | succ g3 =>
      obtain ⟨-, k3⟩ := P_p k3 (rfl : a3.toInt = a3.toInt)
      rw [show ((1 : Int32)).toInt.toNat = 1 by first | decide | (simp; done) | (simp [ms_0]; done)] at k3
      have d3 : (F2 142 1).toInt = 0 := by rw [gf3.2.2.2.2.1 1 (Nat.le_refl _)]; exact d0
      have k3 := P_n k3 (by omega)
      obtain ⟨-, k3⟩ := P_p k3 (rfl : a3.toInt = a3.toInt)
      rw [show ((1 : Int32)).toInt.toNat = 1 by first | decide | (simp; done) | (simp [ms_0]; done)] at k3
      have hE3 : rE F2 L2 SH E := rE_gf hEC gf3
      obtain ⟨w1, w2, w3, w4, w5, w6, w7, w8, w9, w10⟩ := id hv3
      have good : (y.2.2.2 ≠ [] → y.2.2.1.1 = 0 ∧ y.2.1 = []) → RX12_exec_175 (GX12_exec_18 (1 : Int32) a2 a3 g3) (1 : Int32) a2 a3 1 n sl SH F2 L2 FR v st → x_an v L9 (ms_bs E y.2) := by
        intro hpp k4
        have k4 := P_n k4 (by first | decide | (simp; done) | (simp [ms_0]; done))
        obtain ⟨b1, n1, sl1, SH1, FI1, FL1, FR1, hbase, k4⟩ := k4
        rcases r_base hE3 hv3 hbase hpp with ⟨e, e1, e2, e4⟩ | ⟨z, e1, e2, e4⟩
        · have k4 := P_p k4 (by rw [e4]; (first | decide | (simp; done) | (simp [ms_0]; done)))
          rw [e1]
          show v.toInt = e
          rw [fl k4, e2]; (first | decide | (simp; done) | (simp [ms_0]; done))
        · cases e4
          have k4 := P_n k4 (by rw [e2]; (first | decide | (simp; done) | (simp [ms_0]; done)))
          have k4 := P_p k4 (by first | decide | (simp; done) | (simp [ms_0]; done))
          rw [k4.2] at e9
          cases e9
          rw [e1]
          exact ⟨by rw [k4.1]; (first | decide | (simp; done) | (simp [ms_0]; done)), h_up_eq⟩
      have bad : y.2.2.2 ≠ [] → (y.2.2.1.1 ≠ 0 ∨ y.2.1 ≠ []) → RX12_exec_153 (1 : Int32) a2 a3 1 n sl SH F2 L2 FR v st → x_an v L9 (ms_bs E y.2) := by
        intro q1 q2 k4
        have k4 := P_n k4 (by first | decide | (simp; done) | (simp [ms_0]; done))
        unfold ms_bs
        rw [if_pos q1, if_pos q2]
        show v.toInt = 13
        rw [fl k4]; (first | decide | (simp; done) | (simp [ms_0]; done))
      have nn : 0 < (F2 129 1).toInt → y.2.2.2 ≠ [] := fun hlt e => by
        rw [w5, e] at hlt
        exact absurd hlt (by first | decide | (simp; done) | (simp [ms_0]; done))
      show x_an v L9 (ms_bs E y.2)
      rcases k3 with ⟨hlt, -, k3⟩ | ⟨hlt, k3⟩
      · rw [w4.1] at k3
        rcases k3 with ⟨hh, -, k3⟩ | ⟨hh, k3⟩
        · rw [w1] at k3
          rcases k3 with ⟨hs, k3⟩ | ⟨hs, k3⟩
          · exact bad (nn hlt) (Or.inr (fun e => by rw [e] at hs; exact absurd hs (by first | decide | (simp; done) | (simp [ms_0]; done)))) k3
          · refine good (fun _ => ⟨hh, ?_⟩) k3
            cases hy : y.2.1 with
            | nil => rfl
            | cons a r => rw [hy] at hs; simp only [List.length_cons] at hs; exfalso; omega
        · exact bad (nn hlt) (Or.inl hh) k3
      · refine good (fun e => ?_) k3
        exfalso
        cases hy : y.2.2.2 with
        | nil => exact e hy
        | cons a r => rw [w5, hy] at hlt; simp only [List.length_cons] at hlt; omega
/-- what means leaves alone -/
def mk (FI : Nat → Nat → Int32) (FL : Nat → Nat → Int64) (F2 : Nat → Nat → Int32) (L2 : Nat → Nat → Int64) : Prop := (∀ c, (c < 121 ∨ (121 < c ∧ c < 127) ∨ (142 < c ∧ c < 165) ∨ (166 < c ∧ c < 173) ∨ 175 < c) → F2 c = FI c ∧ L2 c = FL c) ∧ (∀ k, (k < 29 ∨ (44 < k ∧ k < 90) ∨ (93 < k ∧ k < 101) ∨ (101 < k ∧ k < 104) ∨ 104 < k) → F2 121 k = FI 121 k ∧ L2 121 k = FL 121 k)
theorem mk_rf : mk FI FL FI FL := ⟨fun _ _ => ⟨rfl, rfl⟩, fun _ _ => ⟨rfl, rfl⟩⟩
theorem mk_tr (h : mk FI FL F2 L2) (g : mk F2 L2 F3 L3) : mk FI FL F3 L3 := ⟨fun c hc => ⟨(g.1 c hc).1.trans (h.1 c hc).1, (g.1 c hc).2.trans (h.1 c hc).2⟩, fun k hk => ⟨(g.2 k hk).1.trans (h.2 k hk).1, (g.2 k hk).2.trans (h.2 k hk).2⟩⟩
/-- a write to a field of the reference -/
theorem mk_f {k : Nat} {x : Int32} (h : mk FI FL F2 L2) (hk : k = 90 ∨ k = 91 ∨ k = 92 ∨ k = 93 ∨ k = 101 ∨ k = 104 ∨ (29 ≤ k ∧ k ≤ 44)) : mk FI FL (h_up F2 121 k x) L2 := ⟨fun c hc => ⟨by rw [h_up_nc (by omega)]; exact (h.1 c hc).1, (h.1 c hc).2⟩, fun j hj => ⟨by rw [h_up_x (by omega)]; exact (h.2 j hj).1, (h.2 j hj).2⟩⟩
/-- a write to a row -/
theorem mk_i {c k : Nat} {x : Int32} (h : mk FI FL F2 L2) (hc : c = 165 ∨ c = 166 ∨ c = 174 ∨ c = 175) : mk FI FL (h_up F2 c k x) L2 := ⟨fun d hd => ⟨by rw [h_up_nc (by omega)]; exact (h.1 d hd).1, (h.1 d hd).2⟩, fun j hj => ⟨by rw [h_up_x (by omega)]; exact (h.2 j hj).1, (h.2 j hj).2⟩⟩
theorem mk_l {k : Nat} {x : Int64} (h : mk FI FL F2 L2) : mk FI FL F2 (h_up L2 173 k x) := ⟨fun d hd => ⟨(h.1 d hd).1, by rw [h_up_nc (by omega)]; exact (h.1 d hd).2⟩, fun j hj => ⟨(h.2 j hj).1, by rw [h_up_x (by omega)]; exact (h.2 j hj).2⟩⟩
theorem rE_mk (h : rE FI FL SH E) (g : mk FI FL F2 L2) : rE F2 L2 SH E := rE_fr h (g.1 123 (by omega)).1 (g.1 124 (by omega)).1 (g.1 125 (by omega)).1 (fun k hk => (g.2 k (Or.inl hk)).1) (fun k hk => (g.2 k (Or.inl hk)).2) (g.1 122 (by omega)).2
/-- a run without a result -/
theorem mk_xr (h : xr FI FL F2 L2) (e1 : F2 143 = FI 143) (e2 : F2 145 = FI 145) (e3 : F2 146 = FI 146) (e4 : F2 147 = FI 147) (hc : ∀ c, (c = 143 ∨ c = 144 ∨ c = 145 ∨ c = 146 ∨ c = 147) → F2 c = FI c ∧ L2 c = FL c) (hk : ∀ k, 44 < k → k ≤ 57 → F2 121 k = FI 121 k ∧ L2 121 k = FL 121 k) : mk FI FL F2 L2 := ⟨fun c h1 => by
  by_cases h2 : c = 143 ∨ c = 144 ∨ c = 145 ∨ c = 146 ∨ c = 147
  · exact hc c h2
  · exact h.1 c (by omega), fun k h1 => by
  by_cases h2 : 44 < k ∧ k ≤ 57
  · exact hk k h2.1 h2.2
  · exact h.2 k (by omega)⟩
end RX1
end
