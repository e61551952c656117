/-! More of numbers; what holds between the reference's arrays. -/
theorem l_nat {x : Int64} {A : Int} (hx : x.toInt = A) (h0 : 0 ≤ A) : (x.toBitVec.toNat : Int) = A := by
  have e2 : x.toInt = x.toBitVec.toInt := rfl
  rw [BitVec.toInt_eq_toNat_cond] at e2
  have b := x.toBitVec.isLt
  split at e2 <;> omega
theorem l_of {x : Int64} {A : Int} (h : (x.toBitVec.toNat : Int) = A) (h1 : A < 9223372036854775808) : x.toInt = A := by
  have e2 : x.toInt = x.toBitVec.toInt := rfl
  rw [BitVec.toInt_eq_toNat_cond] at e2
  split at e2 <;> omega
theorem l_shl8 {x : Int64} {A : Int} (hx : x.toInt = A) (h0 : 0 ≤ A) (h1 : A ≤ 140737488355328) : (x <<< ((8 : Int32).toInt64 &&& 63)).toInt = A * 256 := by
  have e : ((8 : Int32).toInt64 &&& 63) = (8 : Int64) := by decide
  rw [e]
  have hn := l_nat hx h0
  refine l_of ?_ (by omega)
  have e2 : (x <<< (8 : Int64)).toBitVec = x.toBitVec <<< 8 := by
    rw [Int64.toBitVec_shiftLeft]
    rfl
  rw [e2, BitVec.toNat_shiftLeft, Nat.shiftLeft_eq, Nat.mod_eq_of_lt (by omega)]
  omega
theorem l_or8 {x y : Int64} {A B : Int} (hx : x.toInt = A * 256) (hy : y.toInt = B) (h0 : 0 ≤ A) (h1 : A ≤ 140737488355328) (h2 : 0 ≤ B) (h3 : B ≤ 255) : (x ||| y).toInt = A * 256 + B := by
  have hn := l_nat hx (by omega)
  have hm := l_nat hy h2
  refine l_of ?_ (by omega)
  rw [Int64.toBitVec_or, BitVec.toNat_or]
  have ex : x.toBitVec.toNat = 2 ^ 8 * A.toNat := by omega
  have ey : y.toBitVec.toNat < 2 ^ 8 := by omega
  rw [ex, ← Nat.two_pow_add_eq_or_of_lt ey]
  omega
section HK
variable {base d : Nat} {X : Option (Nat × Nat × (Nat → Int32))} {j : Nat} {y : MethodName} {nL : Nat} {ret : Option FieldType} {pc : Nat} {L : xL} {st : List Value} {Φ : Option Value → hS → Prop} {n sl : Nat} {SH : Nat → Nat × Nat} {FI : Nat → Nat → Int32} {FL : Nat → Nat → Int64} {FR : Nat → Nat → Option Nat}
theorem hw_iastk {sk : xK} {c z k : Nat} {i x : Int32} (q : x_at xMM j pc .iastore 1 y nL ret) (hc : c < n) (hs : SH c = (100, z)) (hin : vp_in i z) (hk : i.toNatClampNeg = k) (kk : hw sk base d X j (pc + 1) L st (n, sl, SH, h_up FI c k x, FL, FR) Φ) : hw sk base d X j pc L (.int x :: .int i :: .ref (base + c) :: st) (n, sl, SH, FI, FL, FR) Φ := by
  subst hk; exact hw_iast q hc hs hin kk
theorem hw_lastk {sk : xK} {c z k : Nat} {i : Int32} {x : Int64} (q : x_at xMM j pc .lastore 1 y nL ret) (hc : c < n) (hs : SH c = (101, z)) (hin : vp_in i z) (hk : i.toNatClampNeg = k) (kk : hw sk base d X j (pc + 1) L st (n, sl, SH, FI, h_up FL c k x, FR) Φ) : hw sk base d X j pc L (.long x :: .int i :: .ref (base + c) :: st) (n, sl, SH, FI, FL, FR) Φ := by
  subst hk; exact hw_last q hc hs hin kk
theorem hw_zastk {sk : xK} {c z k : Nat} {i x : Int32} (q : x_at xMM j pc .bastore 1 y nL ret) (hc : c < n) (hs : SH c = (102, z)) (hin : vp_in i z) (hk : i.toNatClampNeg = k) (kk : hw sk base d X j (pc + 1) L st (n, sl, SH, h_up FI c k (vp_nar .boolean x), FL, FR) Φ) : hw sk base d X j pc L (.int x :: .int i :: .ref (base + c) :: st) (n, sl, SH, FI, FL, FR) Φ := by
  subst hk; exact hw_zast q hc hs hin kk
end HK
/-- kinds, values and sizes that belong together: a register's number, or a block's place and size in the pool -/
def rl_h (N : Nat) (k : Nat → Int32) (v : Nat → Int64) (s : Nat → Int32) : Prop := ∀ i, i < N → ((k i).toInt = 2 → 0 ≤ (v i).toInt ∧ (v i).toInt ≤ 31) ∧ ((k i).toInt = 4 → 0 ≤ (v i).toInt ∧ 0 ≤ (s i).toInt ∧ (s i).toInt ≤ 600 ∧ (v i).toInt + (s i).toInt ≤ 19200)
theorem rl_h_up {N i : Nat} {k : Nat → Int32} {v : Nat → Int64} {s : Nat → Int32} {x z : Int32} {y : Int64} (h : rl_h N k v s) (h2 : x.toInt = 2 → 0 ≤ y.toInt ∧ y.toInt ≤ 31) (h4 : x.toInt = 4 → 0 ≤ y.toInt ∧ 0 ≤ z.toInt ∧ z.toInt ≤ 600 ∧ y.toInt + z.toInt ≤ 19200) : rl_h N (va_up k i x) (va_up v i y) (va_up s i z) := by
  intro q hq
  by_cases e : q = i
  · subst e; simp only [va_up, if_pos]; exact ⟨h2, h4⟩
  · simp only [va_up, if_neg e]; exact h q hq
theorem rl_h_k {N i : Nat} {k : Nat → Int32} {v : Nat → Int64} {s : Nat → Int32} {x : Int32} (h : rl_h N k v s) (h2 : x.toInt ≠ 2) (h4 : x.toInt ≠ 4) : rl_h N (va_up k i x) v s := by
  intro q hq
  by_cases e : q = i
  · subst e; simp only [va_up, if_pos]; exact ⟨fun h => absurd h h2, fun h => absurd h h4⟩
  · simp only [va_up, if_neg e]; exact h q hq
theorem rl_h_kv {N i : Nat} {k : Nat → Int32} {v : Nat → Int64} {s : Nat → Int32} {x : Int32} {y : Int64} (h : rl_h N k v s) (h2 : x.toInt ≠ 2) (h4 : x.toInt ≠ 4) : rl_h N (va_up k i x) (va_up v i y) s := by
  intro q hq
  by_cases e : q = i
  · subst e; simp only [va_up, if_pos]; exact ⟨fun h => absurd h h2, fun h => absurd h h4⟩
  · simp only [va_up, if_neg e]; exact h q hq
/-- the parts told: a register's number, or a block's size -/
def rl_p (k : Nat → Int32) (v : Nat → Int64) : Prop := ∀ i, i < 16 → ((k i).toInt = 2 → 0 ≤ (v i).toInt ∧ (v i).toInt ≤ 31) ∧ ((k i).toInt = 4 → 0 ≤ (v i).toInt ∧ (v i).toInt ≤ 600)
theorem rl_p_up {i : Nat} {k : Nat → Int32} {v : Nat → Int64} {x : Int32} {y : Int64} (h : rl_p k v) (h2 : x.toInt = 2 → 0 ≤ y.toInt ∧ y.toInt ≤ 31) (h4 : x.toInt = 4 → 0 ≤ y.toInt ∧ y.toInt ≤ 600) : rl_p (va_up k i x) (va_up v i y) := by
  intro q hq
  by_cases e : q = i
  · subst e; simp only [va_up, if_pos]; exact ⟨h2, h4⟩
  · simp only [va_up, if_neg e]; exact h q hq
/-- where calls go back to -/
def rl_b (b f t : Nat → Int32) : Prop := ∀ i, i < 16 → 0 ≤ (f i).toInt ∧ (f i).toInt ≤ (b i).toInt ∧ (b i).toInt ≤ (t i).toInt ∧ (t i).toInt ≤ 19200 ∧ (t i).toInt ≤ (f i).toInt + 600
theorem rl_b_up {i : Nat} {b f t : Nat → Int32} {x y z : Int32} (h : rl_b b f t) (h1 : 0 ≤ y.toInt) (h2 : y.toInt ≤ x.toInt) (h3 : x.toInt ≤ z.toInt) (h4 : z.toInt ≤ 19200) (h5 : z.toInt ≤ y.toInt + 600) : rl_b (va_up b i x) (va_up f i y) (va_up t i z) := by
  intro q hq
  by_cases e : q = i
  · subst e; simp only [va_up, if_pos]; exact ⟨h1, h2, h3, h4, h5⟩
  · simp only [va_up, if_neg e]; exact h q hq
theorem ai_nc {c N c2 k : Nat} {lo hi : Int} {F : Nat → Nat → Int32} {x : Int32} (h : h_ai c N lo hi F) (e : c ≠ c2) : h_ai c N lo hi (h_up F c2 k x) := ai_eq h (h_up_nc e)
theorem al_nc {c N c2 k : Nat} {lo hi : Int} {F : Nat → Nat → Int64} {x : Int64} (h : h_al c N lo hi F) (e : c ≠ c2) : h_al c N lo hi (h_up F c2 k x) := al_eq h (h_up_nc e)
theorem i_lt {x : Int32} {A : Int} {N : Nat} (hx : x.toInt = A) (h1 : 0 ≤ A) (h2 : A < N) : x.toNatClampNeg < N := by rw [i_cl hx]; omega
/-- a statement that is kept out of sight -/
def hid (p : Prop) : Prop := p
theorem hid_e {p : Prop} (h : hid p) : p := h
