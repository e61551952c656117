/-! BITS of parts; FETCH and STORE as functions. -/
def bt8 (x : Int32) (k : Nat) : Int32 := (x >>> Int32.ofNat k) &&& (1 : Int32)
def bt64 (x : Int64) (k : Nat) : Int32 := ((x >>> Int64.ofNat k) &&& (1 : Int64)).toInt32
/-- bit i of a thing, if it is somewhere -/
def ms_bq (E : ms_E) (H : ms_H) (i : Nat) : Option Int32 :=
  if H.1 = 1 then (if (H.2.1 + Int64.ofNat (i / 8)).toInt < 0 ∨ 4095 < (H.2.1 + Int64.ofNat (i / 8)).toInt then none else some (bt8 (ms_mm E (H.2.1 + Int64.ofNat (i / 8)).toInt.toNat) (i % 8)))
  else if H.1 = 2 then (if 63 < i then none else some (bt64 (ms_rg E H.2.1.toInt.toNat) i))
  else if H.1 = 3 then (if 63 < i then none else some (bt64 H.2.1 i))
  else if H.1 = 4 then (match H.2.2[i / 8]? with
    | none => none
    | some b => some (bt8 b (i % 8)))
  else none
/-- bits in their order: which part, which bit of it -/
def pl_1 (p : ms_P) : Nat → Nat → List (ms_P × Nat)
  | 0, _ => []
  | m + 1, i => (p, i) :: pl_1 p m (i + 1)
def pl_f (B : ms_P → Nat) : List ms_P → List (ms_P × Nat)
  | [] => []
  | p :: r => pl_1 p (B p) 0 ++ pl_f B r
def pl_B (pc : Bool) (n : Nat) (p : ms_P) : Nat := if pc = true then p.2.1.toNat else n
def pl_Q (n : Nat) (Q : ms_Q) : List (ms_P × Nat) := pl_f (pl_B Q.1 n) Q.2.reverse
def fe_st (E : ms_E) (k : Nat) (x : ms_P × Nat) (s : (Nat → Int32) × Nat) : (Nat → Int32) × Nat := match ms_bq E x.1.1 (x.1.2.2.toNat + x.2) with
  | none => s
  | some b => (va_up s.1 (k / 8) (s.1 (k / 8) ||| (b <<< Int32.ofNat (k % 8))), s.2 + 1)
def fe (E : ms_E) (n : Nat) : List (ms_P × Nat) → Nat → (Nat → Int32) × Nat → (Nat → Int32) × Nat
  | [], _, s => s
  | x :: r, k, s => if k < n then fe E n r (k + 1) (fe_st E k x s) else s
theorem fe_n {E : ms_E} {n k : Nat} {s : (Nat → Int32) × Nat} (h : n ≤ k) : ∀ L : List (ms_P × Nat), fe E n L k s = s
  | [] => rfl
  | x :: r => by rw [fe, if_neg (by omega)]
/-- a byte and a number with one bit changed -/
def sb8 (x : Int32) (k : Nat) (b : Int32) : Int32 := (x &&& (((1 : Int32) <<< Int32.ofNat k) ^^^ (-1 : Int32))) ||| (b <<< Int32.ofNat k)
def sb64 (x : Int64) (k : Nat) (b : Int32) : Int64 := (x &&& (((1 : Int64) <<< Int64.ofNat k) ^^^ (-1 : Int64))) ||| (b.toInt64 <<< Int64.ofNat k)
def ms_um (E : ms_E) (a : Nat) (x : Int32) : ms_E := (E.1, va_up E.2.1 a x, E.2.2)
def ms_ur (E : ms_E) (r : Nat) (x : Int64) : ms_E := (va_up E.1 r x, E.2)
/-- a bit is stored, if it can be -/
def so_1 (E : ms_E) (H : ms_H) (i : Nat) (b : Int32) : Option ms_E :=
  if H.1 = 1 then (if (H.2.1 + Int64.ofNat (i / 8)).toInt < 0 ∨ 4095 < (H.2.1 + Int64.ofNat (i / 8)).toInt then none else some (ms_um E (H.2.1 + Int64.ofNat (i / 8)).toInt.toNat (sb8 (ms_mm E (H.2.1 + Int64.ofNat (i / 8)).toInt.toNat) (i % 8) b)))
  else if H.1 = 2 then (if 63 < i then none else some (ms_ur E H.2.1.toInt.toNat (sb64 (ms_rg E H.2.1.toInt.toNat) i b)))
  else none
def so_st (tp : Nat → Int32) (k : Nat) (x : ms_P × Nat) (s : ms_E × Nat) : ms_E × Nat := match so_1 s.1 x.1.1 (x.1.2.2.toNat + x.2) (bt8 (tp (k / 8)) (k % 8)) with
  | none => s
  | some E2 => (E2, s.2 + 1)
def so (tp : Nat → Int32) (n : Nat) : List (ms_P × Nat) → Nat → ms_E × Nat → ms_E × Nat
  | [], _, s => s
  | x :: r, k, s => if k < n then so tp n r (k + 1) (so_st tp k x s) else s
theorem so_n {tp : Nat → Int32} {n k : Nat} {s : ms_E × Nat} (h : n ≤ k) : ∀ L : List (ms_P × Nat), so tp n L k s = s
  | [] => rfl
  | x :: r => by rw [so, if_neg (by omega)]
/-! the shifts -/
theorem sh_7 : ∀ k : Nat, k < 8 → (Int32.ofNat k &&& (31 : Int32)) = Int32.ofNat k := by first | decide | (simp; done) | (simp [ms_0]; done)
theorem sh_63 : ∀ k : Nat, k < 64 → (Int64.ofNat k &&& (63 : Int64)) = Int64.ofNat k := by first | decide | (simp; done) | (simp [ms_0]; done)
theorem bt8_u {x : Int32} {k : Nat} (h0 : 0 ≤ x.toInt) (h1 : x.toInt ≤ 255) (hk : k < 8) : ((x.toUInt32 >>> ((Int32.ofNat k).toUInt32 &&& Int32.toUInt32 31)).toInt32) &&& (1 : Int32) = bt8 x k := by
  obtain ⟨y, hy, rfl⟩ := w_byte h0 h1
  have key : ∀ y : Nat, y < 256 → ∀ k : Nat, k < 8 → (((Int32.ofNat y).toUInt32 >>> ((Int32.ofNat k).toUInt32 &&& Int32.toUInt32 31)).toInt32) &&& (1 : Int32) = ((Int32.ofNat y) >>> Int32.ofNat k) &&& (1 : Int32) := by decide +kernel
  exact key y hy k hk
theorem bt8_01 {x : Int32} {k : Nat} (h0 : 0 ≤ x.toInt) (h1 : x.toInt ≤ 255) (hk : k < 8) : bt8 x k = 0 ∨ bt8 x k = 1 := by
  obtain ⟨y, hy, rfl⟩ := w_byte h0 h1
  have key : ∀ y : Nat, y < 256 → ∀ k : Nat, k < 8 → ((Int32.ofNat y) >>> Int32.ofNat k) &&& (1 : Int32) = 0 ∨ ((Int32.ofNat y) >>> Int32.ofNat k) &&& (1 : Int32) = 1 := by decide +kernel
  exact key y hy k hk
theorem sb8_rg {x b : Int32} {k : Nat} (h0 : 0 ≤ x.toInt) (h1 : x.toInt ≤ 255) (hk : k < 8) (hb : b = 0 ∨ b = 1) : 0 ≤ (sb8 x k b).toInt ∧ (sb8 x k b).toInt ≤ 255 := by
  obtain ⟨y, hy, rfl⟩ := w_byte h0 h1
  have key : ∀ y : Nat, y < 256 → ∀ k : Nat, k < 8 → (0 ≤ (sb8 (Int32.ofNat y) k 0).toInt ∧ (sb8 (Int32.ofNat y) k 0).toInt ≤ 255) ∧ 0 ≤ (sb8 (Int32.ofNat y) k 1).toInt ∧ (sb8 (Int32.ofNat y) k 1).toInt ≤ 255 := by decide +kernel
  rcases hb with rfl | rfl
  · exact (key y hy k hk).1
  · exact (key y hy k hk).2
theorem bt_sx (x : BitVec 64) (k : Nat) (hk : k < 64) : (x >>> k) &&& 1#64 = (x.sshiftRight k) &&& 1#64 := by
  apply BitVec.eq_of_getLsbD_eq
  intro j hj
  rw [BitVec.getLsbD_and, BitVec.getLsbD_and]
  by_cases h0 : j = 0
  · subst h0
    rw [BitVec.getLsbD_ushiftRight, BitVec.getLsbD_sshiftRight]
    first | (simp [hk]; done) | (rw [if_pos (by omega)]; simp)
  · simp [BitVec.getLsbD_one, h0]
theorem s_sh {x : Int64} {k : Nat} (hk : k < 64) : (x >>> Int64.ofNat k).toBitVec = x.toBitVec.sshiftRight k := by
  rw [Int64.toBitVec_shiftRight]
  have key : ∀ k : Nat, k < 64 → ((Int64.ofNat k).toBitVec.smod 64).toNat = k := by first | decide | (simp; done) | (simp [ms_0]; done)
  show x.toBitVec.sshiftRight ((Int64.ofNat k).toBitVec.smod 64).toNat = _
  rw [key k hk]
theorem u_sh {x : Int64} {k : Nat} (hk : k < 64) : ((x.toUInt64 >>> ((Int64.ofNat k).toUInt64 &&& Int64.toUInt64 63)).toInt64).toBitVec = x.toBitVec >>> k := by
  have key : ∀ k : Nat, k < 64 → (((Int64.ofNat k).toUInt64 &&& Int64.toUInt64 63).toBitVec % 64#64).toNat = k := by first | decide | (simp; done) | (simp [ms_0]; done)
  show (x.toUInt64 >>> ((Int64.ofNat k).toUInt64 &&& Int64.toUInt64 63)).toBitVec = _
  rw [UInt64.toBitVec_shiftRight]
  show x.toBitVec >>> (((Int64.ofNat k).toUInt64 &&& Int64.toUInt64 63).toBitVec % 64#64).toNat = _
  rw [key k hk]
theorem bt64_u {x : Int64} {k : Nat} (hk : k < 64) : ((((x.toUInt64 >>> ((Int64.ofNat k).toUInt64 &&& Int64.toUInt64 63)).toInt64) &&& (1 : Int64)).toInt32) = bt64 x k := by
  unfold bt64
  congr 1
  apply Int64.toBitVec_inj.mp
  rw [Int64.toBitVec_and, Int64.toBitVec_and, u_sh hk, s_sh hk]
  exact bt_sx x.toBitVec k hk
theorem bt64_01 {x : Int64} {k : Nat} : bt64 x k = 0 ∨ bt64 x k = 1 := by
  unfold bt64
  generalize x >>> Int64.ofNat k = y
  have h : (y &&& (1 : Int64)) = 0 ∨ (y &&& (1 : Int64)) = 1 := by
    have hb : (y.toBitVec &&& 1#64) = 0#64 ∨ (y.toBitVec &&& 1#64) = 1#64 := by
      cases hq : y.toBitVec.getLsbD 0 with
      | false =>
        left
        apply BitVec.eq_of_getLsbD_eq
        intro j hj
        rw [BitVec.getLsbD_and]
        by_cases h0 : j = 0
        · subst h0
          rw [hq]
          first | rfl | (simp; done) | decide
        · simp [BitVec.getLsbD_one, h0]
      | true =>
        right
        apply BitVec.eq_of_getLsbD_eq
        intro j hj
        rw [BitVec.getLsbD_and]
        by_cases h0 : j = 0
        · subst h0
          rw [hq]
          first | rfl | (simp; done) | decide
        · simp [BitVec.getLsbD_one, h0]
    rcases hb with hb | hb
    · left
      apply Int64.toBitVec_inj.mp
      rw [Int64.toBitVec_and]
      exact hb
    · right
      apply Int64.toBitVec_inj.mp
      rw [Int64.toBitVec_and]
      exact hb
  rcases h with h | h
  · left
    rw [h]
    decide
  · right
    rw [h]
    decide
/-- a bit is 0 or 1 -/
theorem ms_bq_01 {E : ms_E} {H : ms_H} {i : Nat} {b : Int32} (hm : ∀ a, a < 4096 → 0 ≤ (ms_mm E a).toInt ∧ (ms_mm E a).toInt ≤ 255) (hb : ∀ (k : Nat) (x : Int32), H.2.2[k]? = some x → 0 ≤ x.toInt ∧ x.toInt ≤ 255) (h : ms_bq E H i = some b) : b = 0 ∨ b = 1 := by
  unfold ms_bq at h
  have h8 : i % 8 < 8 := Nat.mod_lt _ (by first | decide | (simp; done) | (simp [ms_0]; done))
  by_cases h1 : H.1 = 1
  · rw [if_pos h1] at h
    by_cases h2 : (H.2.1 + Int64.ofNat (i / 8)).toInt < 0 ∨ 4095 < (H.2.1 + Int64.ofNat (i / 8)).toInt
    · rw [if_pos h2] at h; cases h
    · rw [if_neg h2] at h
      rw [← Option.some.inj h]
      have := hm (H.2.1 + Int64.ofNat (i / 8)).toInt.toNat (by omega)
      exact bt8_01 this.1 this.2 h8
  rw [if_neg h1] at h
  by_cases h2 : H.1 = 2
  · rw [if_pos h2] at h
    by_cases h3 : 63 < i
    · rw [if_pos h3] at h; cases h
    · rw [if_neg h3] at h
      rw [← Option.some.inj h]
      exact bt64_01
  rw [if_neg h2] at h
  by_cases h3 : H.1 = 3
  · rw [if_pos h3] at h
    by_cases h4 : 63 < i
    · rw [if_pos h4] at h; cases h
    · rw [if_neg h4] at h
      rw [← Option.some.inj h]
      exact bt64_01
  rw [if_neg h3] at h
  by_cases h4 : H.1 = 4
  · rw [if_pos h4] at h
    cases hx : H.2.2[i / 8]? with
    | none => rw [hx] at h; cases h
    | some x =>
      rw [hx] at h
      have h : some (bt8 x (i % 8)) = some b := h
      rw [← Option.some.inj h]
      have := hb _ _ hx
      exact bt8_01 this.1 this.2 h8
  · rw [if_neg h4] at h; cases h
