/-! Ints by their numbers, and branches by them. -/
theorem i_bm {a : Int} (h1 : -2147483648 ≤ a) (h2 : a ≤ 2147483647) : a.bmod (2 ^ 32) = a := by
  rw [Int.bmod_def]
  split <;> omega
theorem l_bm {a : Int} (h1 : -9223372036854775808 ≤ a) (h2 : a ≤ 9223372036854775807) : a.bmod (2 ^ 64) = a := by
  rw [Int.bmod_def]
  split <;> omega
theorem i_rng (x : Int32) : -2147483648 ≤ x.toInt ∧ x.toInt ≤ 2147483647 := ⟨Int32.le_toInt x, by have := Int32.toInt_lt x; omega⟩
theorem l_rng (x : Int64) : -9223372036854775808 ≤ x.toInt ∧ x.toInt ≤ 9223372036854775807 := ⟨Int64.le_toInt x, by have := Int64.toInt_lt x; omega⟩
theorem i_add {x y : Int32} {A B : Int} (hx : x.toInt = A) (hy : y.toInt = B) (h1 : -2147483648 ≤ A + B) (h2 : A + B ≤ 2147483647) : (x + y).toInt = A + B := by
  rw [Int32.toInt_add, hx, hy, i_bm h1 h2]
theorem i_sub {x y : Int32} {A B : Int} (hx : x.toInt = A) (hy : y.toInt = B) (h1 : -2147483648 ≤ A - B) (h2 : A - B ≤ 2147483647) : (x - y).toInt = A - B := by
  rw [Int32.toInt_sub, hx, hy, i_bm h1 h2]
theorem i_mul {x y : Int32} {A B : Int} (hx : x.toInt = A) (hy : y.toInt = B) (h1 : -2147483648 ≤ A * B) (h2 : A * B ≤ 2147483647) : (x * y).toInt = A * B := by
  rw [Int32.toInt_mul, hx, hy, i_bm h1 h2]
theorem i_neg {x : Int32} {A : Int} (hx : x.toInt = A) (h1 : -2147483647 ≤ A) : (-x).toInt = -A := by
  have := i_rng x
  rw [Int32.toInt_neg, hx, i_bm (by omega) (by omega)]
theorem l_add {x y : Int64} {A B : Int} (hx : x.toInt = A) (hy : y.toInt = B) (h1 : -9223372036854775808 ≤ A + B) (h2 : A + B ≤ 9223372036854775807) : (x + y).toInt = A + B := by
  rw [Int64.toInt_add, hx, hy, l_bm h1 h2]
theorem l_sub {x y : Int64} {A B : Int} (hx : x.toInt = A) (hy : y.toInt = B) (h1 : -9223372036854775808 ≤ A - B) (h2 : A - B ≤ 9223372036854775807) : (x - y).toInt = A - B := by
  rw [Int64.toInt_sub, hx, hy, l_bm h1 h2]
theorem l_mul {x y : Int64} {A B : Int} (hx : x.toInt = A) (hy : y.toInt = B) (h1 : -9223372036854775808 ≤ A * B) (h2 : A * B ≤ 9223372036854775807) : (x * y).toInt = A * B := by
  rw [Int64.toInt_mul, hx, hy, l_bm h1 h2]
theorem i_2l {x : Int32} {A : Int} (hx : x.toInt = A) : x.toInt64.toInt = A := by rw [Int32.toInt_toInt64, hx]
theorem l_2i {x : Int64} {A : Int} (hx : x.toInt = A) (h1 : -2147483648 ≤ A) (h2 : A ≤ 2147483647) : x.toInt32.toInt = A := by
  rw [Int64.toInt_toInt32, hx, i_bm h1 h2]
theorem h_in {x : Int32} {A : Int} {z : Nat} (hx : x.toInt = A) (h1 : 0 ≤ A) (h2 : A < z) : vp_in x z := vp_in_iff.mpr ⟨by omega, by omega⟩
theorem i_cl {x : Int32} {A : Int} (hx : x.toInt = A) : x.toNatClampNeg = A.toNat := by rw [← hx]; rfl
theorem i_lit {n : Nat} (h : n < 2147483648) : (Int32.ofNat n).toInt = n := by
  exact nI_toInt (by omega)
theorem i_eqv {x y : Int32} (h : x.toInt = y.toInt) : x = y := Int32.toInt_inj.mp h
/-- x & m for a mask m that isn't negative -/
theorem i_and {x m : Int32} {M : Int} (hm : m.toInt = M) (h0 : 0 ≤ M) : 0 ≤ (x &&& m).toInt ∧ (x &&& m).toInt ≤ M := by
  have e1 : (x &&& m).toBitVec.toNat ≤ m.toBitVec.toNat := by rw [Int32.toBitVec_and, BitVec.toNat_and]; exact Nat.and_le_right
  have e2 : m.toInt = m.toBitVec.toInt := rfl
  have e3 : (x &&& m).toInt = (x &&& m).toBitVec.toInt := rfl
  rw [BitVec.toInt_eq_toNat_cond] at e2 e3
  have b1 := m.toBitVec.isLt
  have b2 := (x &&& m).toBitVec.isLt
  split at e2 <;> split at e3 <;> omega
theorem i_div {x y : Int32} {A B : Int} (hx : x.toInt = A) (hy : y.toInt = B) (h0 : 0 ≤ A) (hB : 0 < B) : (x / y).toInt = A / B := by
  have := i_rng x
  have h2 : A / B ≤ A := Int.ediv_le_self B h0
  have h3 : 0 ≤ A / B := Int.ediv_nonneg h0 (by omega)
  rw [Int32.toInt_div, hx, hy, Int.tdiv_eq_ediv_of_nonneg h0, i_bm (by omega) (by omega)]
theorem i_rem {x y : Int32} {A B : Int} (hx : x.toInt = A) (hy : y.toInt = B) (h0 : 0 ≤ A) (hB : 0 < B) : (x - x / y * y).toInt = A % B := by
  have hr := i_rng x
  have h1 := i_div hx hy h0 hB
  have h3 : 0 ≤ A / B := Int.ediv_nonneg h0 (by omega)
  have h4 : 0 ≤ A % B := Int.emod_nonneg A (by omega)
  have h5 : A / B * B + A % B = A := Int.ediv_mul_add_emod A B
  have h6 : 0 ≤ A / B * B := Int.mul_nonneg h3 (by omega)
  have h2 := i_mul h1 hy (by omega) (by omega)
  rw [i_sub hx h2 (by omega) (by omega)]
  omega
theorem l_div {x y : Int64} {A B : Int} (hx : x.toInt = A) (hy : y.toInt = B) (h0 : 0 ≤ A) (hB : 0 < B) : (x / y).toInt = A / B := by
  have := l_rng x
  have h2 : A / B ≤ A := Int.ediv_le_self B h0
  have h3 : 0 ≤ A / B := Int.ediv_nonneg h0 (by omega)
  rw [Int64.toInt_div, hx, hy, Int.tdiv_eq_ediv_of_nonneg h0, l_bm (by omega) (by omega)]
theorem l_rem {x y : Int64} {A B : Int} (hx : x.toInt = A) (hy : y.toInt = B) (h0 : 0 ≤ A) (hB : 0 < B) : (x - x / y * y).toInt = A % B := by
  have hr := l_rng x
  have h1 := l_div hx hy h0 hB
  have h3 : 0 ≤ A / B := Int.ediv_nonneg h0 (by omega)
  have h4 : 0 ≤ A % B := Int.emod_nonneg A (by omega)
  have h5 : A / B * B + A % B = A := Int.ediv_mul_add_emod A B
  have h6 : 0 ≤ A / B * B := Int.mul_nonneg h3 (by omega)
  have h2 := l_mul h1 hy (by omega) (by omega)
  rw [l_sub hx h2 (by omega) (by omega)]
  omega
theorem l_and {x m : Int64} {M : Int} (hm : m.toInt = M) (h0 : 0 ≤ M) : 0 ≤ (x &&& m).toInt ∧ (x &&& m).toInt ≤ M := by
  have e1 : (x &&& m).toBitVec.toNat ≤ m.toBitVec.toNat := by rw [Int64.toBitVec_and, BitVec.toNat_and]; exact Nat.and_le_right
  have e2 : m.toInt = m.toBitVec.toInt := rfl
  have e3 : (x &&& m).toInt = (x &&& m).toBitVec.toInt := rfl
  rw [BitVec.toInt_eq_toNat_cond] at e2 e3
  have b1 := m.toBitVec.isLt
  have b2 := (x &&& m).toBitVec.isLt
  split at e2 <;> split at e3 <;> omega
section HB
variable {base d : Nat} {X : Option (Nat × Nat × (Nat → Int32))} {j : Nat} {y : MethodName} {nL : Nat} {ret : Option FieldType} {len pc : Nat} {L : xL} {st : List Value} {s : hS} {Φ : Option Value → hS → Prop} {off : Int} {tgt : Nat} {x y1 : Int32} {A B : Int}
theorem hw_ic {sk : xK} {n : Int} {v : Int32} (q : x_at xMM j pc (.iconst n) 1 y nL ret) (hv : Int32.ofInt n = v) (k : hw sk base d X j (pc + 1) L (.int v :: st) s Φ) : hw sk base d X j pc L st s Φ := by subst hv; exact xw_iconst q k
theorem hw_bp {sk : xK} {n : Int} {v : Int32} (q : x_at xMM j pc (.bipush n) 2 y nL ret) (hv : (Int8.ofInt n).toInt32 = v) (k : hw sk base d X j (pc + 2) L (.int v :: st) s Φ) : hw sk base d X j pc L st s Φ := by subst hv; exact xw_bipush q k
theorem hw_sp {sk : xK} {n : Int} {v : Int32} (q : x_at xMM j pc (.sipush n) 3 y nL ret) (hv : (Int16.ofInt n).toInt32 = v) (k : hw sk base d X j (pc + 3) L (.int v :: st) s Φ) : hw sk base d X j pc L st s Φ := by subst hv; exact xw_sipush q k
theorem hw_lc {sk : xK} {n : Fin 2} {v : Int64} (q : x_at xMM j pc (.lconst n) 1 y nL ret) (hv : Int64.ofNat (n : Nat) = v) (k : hw sk base d X j (pc + 1) L (.long v :: st) s Φ) : hw sk base d X j pc L st s Φ := by subst hv; exact xw_lconst q k
theorem hw_ifeq {sk : xK} (q : x_at xMM j pc (.ifCond .eq off) 3 y nL ret) (ht : (pc : Int) + off = (tgt : Int)) (hx : x.toInt = A) (kt : A = 0 → hw sk base d X j tgt L st s Φ) (kf : A ≠ 0 → hw sk base d X j (pc + 3) L st s Φ) : hw sk base d X j pc L (.int x :: st) s Φ :=
  xw_ifeq q ht (fun h => kt (by rw [← hx, h]; rfl)) (fun h => kf (fun e => h (i_eqv (hx.trans e))))
theorem hw_ifne {sk : xK} (q : x_at xMM j pc (.ifCond .ne off) 3 y nL ret) (ht : (pc : Int) + off = (tgt : Int)) (hx : x.toInt = A) (kt : A ≠ 0 → hw sk base d X j tgt L st s Φ) (kf : A = 0 → hw sk base d X j (pc + 3) L st s Φ) : hw sk base d X j pc L (.int x :: st) s Φ :=
  xw_ifne q ht (fun h => kt (fun e => h (i_eqv (hx.trans e)))) (fun h => kf (by rw [← hx, h]; rfl))
theorem hw_iflt {sk : xK} (q : x_at xMM j pc (.ifCond .lt off) 3 y nL ret) (ht : (pc : Int) + off = (tgt : Int)) (hx : x.toInt = A) (kt : A < 0 → hw sk base d X j tgt L st s Φ) (kf : 0 ≤ A → hw sk base d X j (pc + 3) L st s Φ) : hw sk base d X j pc L (.int x :: st) s Φ :=
  xw_iflt q ht (fun h => kt (by rw [Int32.lt_iff_toInt_lt, hx] at h; exact h)) (fun h => kf (by rw [Int32.lt_iff_toInt_lt, hx] at h; exact Int.not_lt.mp h))
theorem hw_ifge {sk : xK} (q : x_at xMM j pc (.ifCond .ge off) 3 y nL ret) (ht : (pc : Int) + off = (tgt : Int)) (hx : x.toInt = A) (kt : 0 ≤ A → hw sk base d X j tgt L st s Φ) (kf : A < 0 → hw sk base d X j (pc + 3) L st s Φ) : hw sk base d X j pc L (.int x :: st) s Φ :=
  xw_ifge q ht (fun h => kt (by rw [Int32.le_iff_toInt_le, hx] at h; exact h)) (fun h => kf (by rw [Int32.le_iff_toInt_le, hx] at h; exact Int.not_le.mp h))
theorem hw_ifgt {sk : xK} (q : x_at xMM j pc (.ifCond .gt off) 3 y nL ret) (ht : (pc : Int) + off = (tgt : Int)) (hx : x.toInt = A) (kt : 0 < A → hw sk base d X j tgt L st s Φ) (kf : A ≤ 0 → hw sk base d X j (pc + 3) L st s Φ) : hw sk base d X j pc L (.int x :: st) s Φ :=
  xw_ifgt q ht (fun h => kt (by rw [Int32.lt_iff_toInt_lt, hx] at h; exact h)) (fun h => kf (by rw [Int32.lt_iff_toInt_lt, hx] at h; exact Int.not_lt.mp h))
theorem hw_ifle {sk : xK} (q : x_at xMM j pc (.ifCond .le off) 3 y nL ret) (ht : (pc : Int) + off = (tgt : Int)) (hx : x.toInt = A) (kt : A ≤ 0 → hw sk base d X j tgt L st s Φ) (kf : 0 < A → hw sk base d X j (pc + 3) L st s Φ) : hw sk base d X j pc L (.int x :: st) s Φ :=
  xw_ifle q ht (fun h => kt (by rw [Int32.le_iff_toInt_le, hx] at h; exact h)) (fun h => kf (by rw [Int32.le_iff_toInt_le, hx] at h; exact Int.not_le.mp h))
theorem hw_iceq {sk : xK} (q : x_at xMM j pc (.if_icmp .eq off) 3 y nL ret) (ht : (pc : Int) + off = (tgt : Int)) (hx : x.toInt = A) (hy : y1.toInt = B) (kt : A = B → hw sk base d X j tgt L st s Φ) (kf : A ≠ B → hw sk base d X j (pc + 3) L st s Φ) : hw sk base d X j pc L (.int y1 :: .int x :: st) s Φ :=
  xw_icmpeq q ht (fun h => kt (by rw [← hx, ← hy, h])) (fun h => kf (fun e => h (i_eqv (by rw [hx, hy, e]))))
theorem hw_icne {sk : xK} (q : x_at xMM j pc (.if_icmp .ne off) 3 y nL ret) (ht : (pc : Int) + off = (tgt : Int)) (hx : x.toInt = A) (hy : y1.toInt = B) (kt : A ≠ B → hw sk base d X j tgt L st s Φ) (kf : A = B → hw sk base d X j (pc + 3) L st s Φ) : hw sk base d X j pc L (.int y1 :: .int x :: st) s Φ :=
  xw_icmpne q ht (fun h => kt (fun e => h (i_eqv (by rw [hx, hy, e])))) (fun h => kf (by rw [← hx, ← hy, h]))
theorem hw_iclt {sk : xK} (q : x_at xMM j pc (.if_icmp .lt off) 3 y nL ret) (ht : (pc : Int) + off = (tgt : Int)) (hx : x.toInt = A) (hy : y1.toInt = B) (kt : A < B → hw sk base d X j tgt L st s Φ) (kf : B ≤ A → hw sk base d X j (pc + 3) L st s Φ) : hw sk base d X j pc L (.int y1 :: .int x :: st) s Φ :=
  xw_icmplt q ht (fun h => kt (by rw [Int32.lt_iff_toInt_lt, hx, hy] at h; exact h)) (fun h => kf (by rw [Int32.lt_iff_toInt_lt, hx, hy] at h; exact Int.not_lt.mp h))
theorem hw_icge {sk : xK} (q : x_at xMM j pc (.if_icmp .ge off) 3 y nL ret) (ht : (pc : Int) + off = (tgt : Int)) (hx : x.toInt = A) (hy : y1.toInt = B) (kt : B ≤ A → hw sk base d X j tgt L st s Φ) (kf : A < B → hw sk base d X j (pc + 3) L st s Φ) : hw sk base d X j pc L (.int y1 :: .int x :: st) s Φ :=
  xw_icmpge q ht (fun h => kt (by rw [Int32.le_iff_toInt_le, hx, hy] at h; exact h)) (fun h => kf (by rw [Int32.le_iff_toInt_le, hx, hy] at h; exact Int.not_le.mp h))
theorem hw_icgt {sk : xK} (q : x_at xMM j pc (.if_icmp .gt off) 3 y nL ret) (ht : (pc : Int) + off = (tgt : Int)) (hx : x.toInt = A) (hy : y1.toInt = B) (kt : B < A → hw sk base d X j tgt L st s Φ) (kf : A ≤ B → hw sk base d X j (pc + 3) L st s Φ) : hw sk base d X j pc L (.int y1 :: .int x :: st) s Φ :=
  xw_icmpgt q ht (fun h => kt (by rw [Int32.lt_iff_toInt_lt, hx, hy] at h; exact h)) (fun h => kf (by rw [Int32.lt_iff_toInt_lt, hx, hy] at h; exact Int.not_lt.mp h))
theorem hw_icle {sk : xK} (q : x_at xMM j pc (.if_icmp .le off) 3 y nL ret) (ht : (pc : Int) + off = (tgt : Int)) (hx : x.toInt = A) (hy : y1.toInt = B) (kt : A ≤ B → hw sk base d X j tgt L st s Φ) (kf : B < A → hw sk base d X j (pc + 3) L st s Φ) : hw sk base d X j pc L (.int y1 :: .int x :: st) s Φ :=
  xw_icmple q ht (fun h => kt (by rw [Int32.le_iff_toInt_le, hx, hy] at h; exact h)) (fun h => kf (by rw [Int32.le_iff_toInt_le, hx, hy] at h; exact Int.not_le.mp h))
/-- two longs held against each other, and the branch behind it -/
theorem lg_cmp3 (a b : Int64) : (lg_cmp a b).toInt = (if a.toInt < b.toInt then -1 else if a.toInt = b.toInt then 0 else 1) := by
  unfold lg_cmp
  simp only [gt_iff_lt, Int64.lt_iff_toInt_lt, ← Int64.toInt_inj]
  repeat' split
  all_goals first | omega | decide
theorem hw_lceq {sk : xK} {a b : Int64} (q1 : x_at xMM j pc .lcmp 1 y nL ret) (q : x_at xMM j (pc + 1) (.ifCond .eq off) 3 y nL ret) (ht : ((pc + 1 : Nat) : Int) + off = (tgt : Int)) (ha : a.toInt = A) (hb : b.toInt = B) (kt : A = B → hw sk base d X j tgt L st s Φ) (kf : A ≠ B → hw sk base d X j (pc + 1 + 3) L st s Φ) : hw sk base d X j pc L (.long b :: .long a :: st) s Φ := by
  have h3 := lg_cmp3 a b
  rw [ha, hb] at h3
  refine xw_lcmp q1 (hw_ifeq q ht h3 (fun h => kt ?_) (fun h => kf ?_))
  · split at h <;> (try split at h) <;> omega
  · split at h <;> (try split at h) <;> omega
theorem hw_lcne {sk : xK} {a b : Int64} (q1 : x_at xMM j pc .lcmp 1 y nL ret) (q : x_at xMM j (pc + 1) (.ifCond .ne off) 3 y nL ret) (ht : ((pc + 1 : Nat) : Int) + off = (tgt : Int)) (ha : a.toInt = A) (hb : b.toInt = B) (kt : A ≠ B → hw sk base d X j tgt L st s Φ) (kf : A = B → hw sk base d X j (pc + 1 + 3) L st s Φ) : hw sk base d X j pc L (.long b :: .long a :: st) s Φ := by
  have h3 := lg_cmp3 a b
  rw [ha, hb] at h3
  refine xw_lcmp q1 (hw_ifne q ht h3 (fun h => kt ?_) (fun h => kf ?_))
  · split at h <;> (try split at h) <;> omega
  · split at h <;> (try split at h) <;> omega
theorem hw_lclt {sk : xK} {a b : Int64} (q1 : x_at xMM j pc .lcmp 1 y nL ret) (q : x_at xMM j (pc + 1) (.ifCond .lt off) 3 y nL ret) (ht : ((pc + 1 : Nat) : Int) + off = (tgt : Int)) (ha : a.toInt = A) (hb : b.toInt = B) (kt : A < B → hw sk base d X j tgt L st s Φ) (kf : B ≤ A → hw sk base d X j (pc + 1 + 3) L st s Φ) : hw sk base d X j pc L (.long b :: .long a :: st) s Φ := by
  have h3 := lg_cmp3 a b
  rw [ha, hb] at h3
  refine xw_lcmp q1 (hw_iflt q ht h3 (fun h => kt ?_) (fun h => kf ?_))
  · split at h <;> (try split at h) <;> omega
  · split at h <;> (try split at h) <;> omega
theorem hw_lcge {sk : xK} {a b : Int64} (q1 : x_at xMM j pc .lcmp 1 y nL ret) (q : x_at xMM j (pc + 1) (.ifCond .ge off) 3 y nL ret) (ht : ((pc + 1 : Nat) : Int) + off = (tgt : Int)) (ha : a.toInt = A) (hb : b.toInt = B) (kt : B ≤ A → hw sk base d X j tgt L st s Φ) (kf : A < B → hw sk base d X j (pc + 1 + 3) L st s Φ) : hw sk base d X j pc L (.long b :: .long a :: st) s Φ := by
  have h3 := lg_cmp3 a b
  rw [ha, hb] at h3
  refine xw_lcmp q1 (hw_ifge q ht h3 (fun h => kt ?_) (fun h => kf ?_))
  · split at h <;> (try split at h) <;> omega
  · split at h <;> (try split at h) <;> omega
theorem hw_lcgt {sk : xK} {a b : Int64} (q1 : x_at xMM j pc .lcmp 1 y nL ret) (q : x_at xMM j (pc + 1) (.ifCond .gt off) 3 y nL ret) (ht : ((pc + 1 : Nat) : Int) + off = (tgt : Int)) (ha : a.toInt = A) (hb : b.toInt = B) (kt : B < A → hw sk base d X j tgt L st s Φ) (kf : A ≤ B → hw sk base d X j (pc + 1 + 3) L st s Φ) : hw sk base d X j pc L (.long b :: .long a :: st) s Φ := by
  have h3 := lg_cmp3 a b
  rw [ha, hb] at h3
  refine xw_lcmp q1 (hw_ifgt q ht h3 (fun h => kt ?_) (fun h => kf ?_))
  · split at h <;> (try split at h) <;> omega
  · split at h <;> (try split at h) <;> omega
theorem hw_lcle {sk : xK} {a b : Int64} (q1 : x_at xMM j pc .lcmp 1 y nL ret) (q : x_at xMM j (pc + 1) (.ifCond .le off) 3 y nL ret) (ht : ((pc + 1 : Nat) : Int) + off = (tgt : Int)) (ha : a.toInt = A) (hb : b.toInt = B) (kt : A ≤ B → hw sk base d X j tgt L st s Φ) (kf : B < A → hw sk base d X j (pc + 1 + 3) L st s Φ) : hw sk base d X j pc L (.long b :: .long a :: st) s Φ := by
  have h3 := lg_cmp3 a b
  rw [ha, hb] at h3
  refine xw_lcmp q1 (hw_ifle q ht h3 (fun h => kt ?_) (fun h => kf ?_))
  · split at h <;> (try split at h) <;> omega
  · split at h <;> (try split at h) <;> omega
end HB
