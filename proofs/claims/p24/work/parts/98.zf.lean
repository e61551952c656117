/-! THE CLASS'S CODER writes: what it puts behind the bytes B that stand (behind t6.py's print). -/
theorem l_ushr (y : Int64) : ∀ k : Nat, k < 8 → ((y.toUInt64 >>> (UInt64.ofNat (8 * k))).toInt64).toBitVec = y.toBitVec >>> (8 * k)
  | 0, _ => by show (y.toUInt64 >>> (UInt64.ofNat 0)).toBitVec = _; rw [UInt64.toBitVec_shiftRight]; rfl
  | 1, _ => by show (y.toUInt64 >>> (UInt64.ofNat 8)).toBitVec = _; rw [UInt64.toBitVec_shiftRight]; rfl
  | 2, _ => by show (y.toUInt64 >>> (UInt64.ofNat 16)).toBitVec = _; rw [UInt64.toBitVec_shiftRight]; rfl
  | 3, _ => by show (y.toUInt64 >>> (UInt64.ofNat 24)).toBitVec = _; rw [UInt64.toBitVec_shiftRight]; rfl
  | 4, _ => by show (y.toUInt64 >>> (UInt64.ofNat 32)).toBitVec = _; rw [UInt64.toBitVec_shiftRight]; rfl
  | 5, _ => by show (y.toUInt64 >>> (UInt64.ofNat 40)).toBitVec = _; rw [UInt64.toBitVec_shiftRight]; rfl
  | 6, _ => by show (y.toUInt64 >>> (UInt64.ofNat 48)).toBitVec = _; rw [UInt64.toBitVec_shiftRight]; rfl
  | 7, _ => by show (y.toUInt64 >>> (UInt64.ofNat 56)).toBitVec = _; rw [UInt64.toBitVec_shiftRight]; rfl
  | k + 8, h => by omega
theorem b_ushr {x : BitVec 64} {k : Nat} (h : 0 ≤ x.toInt) : (x >>> k).toInt = x.toInt / 2 ^ k := by
  have hx := x.isLt
  have h2 : 2 * x.toNat < 2 ^ 64 := by
    rw [BitVec.toInt_eq_toNat_cond] at h
    split at h
    · assumption
    · omega
  have e1 : x.toInt = (x.toNat : Int) := by rw [BitVec.toInt_eq_toNat_cond, if_pos h2]
  have e2 : (x >>> k).toNat = x.toNat / 2 ^ k := by rw [BitVec.toNat_ushiftRight, Nat.shiftRight_eq_div_pow]
  have h3 : x.toNat / 2 ^ k ≤ x.toNat := Nat.div_le_self _ _
  rw [BitVec.toInt_eq_toNat_cond, e2, if_pos (by omega), e1, Int.natCast_ediv, Int.natCast_pow]
  rfl
theorem l_ushr8 {x : Int64} {l : Int32} {i : Nat} (h0 : 0 ≤ x.toInt) (hl : l.toInt = i) (hi : i < 8) : ((x.toUInt64 >>> ((((8 : Int32)) * l).toInt64.toUInt64 &&& Int64.toUInt64 63)).toInt64).toInt = x.toInt / 256 ^ i := by
  have e0 : l = Int32.ofNat i := i_eqv (by rw [hl, i_lit (by omega)])
  subst e0
  have key : ∀ k : Nat, k < 8 → (((8 : Int32) * Int32.ofNat k).toInt64.toUInt64 &&& Int64.toUInt64 63) = UInt64.ofNat (8 * k) := by decide
  rw [key i hi]
  show ((x.toUInt64 >>> (UInt64.ofNat (8 * i))).toInt64).toBitVec.toInt = _
  rw [l_ushr x i hi, b_ushr h0, Int.pow_mul]
  rfl
theorem l_ushr7 {x : Int64} (h0 : 0 ≤ x.toInt) : ((x.toUInt64 >>> (((7 : Int32)).toInt64.toUInt64 &&& Int64.toUInt64 63)).toInt64).toInt = x.toInt / 128 := by
  have key : (((7 : Int32)).toInt64.toUInt64 &&& Int64.toUInt64 63) = UInt64.ofNat 7 := by decide
  rw [key]
  have e : ((x.toUInt64 >>> (UInt64.ofNat 7)).toInt64).toBitVec = x.toBitVec >>> 7 := by show (x.toUInt64 >>> (UInt64.ofNat 7)).toBitVec = _; rw [UInt64.toBitVec_shiftRight]; rfl
  show ((x.toUInt64 >>> (UInt64.ofNat 7)).toInt64).toBitVec.toInt = _
  rw [e, b_ushr h0]
  rfl
def c_vw (FI : Nat → Nat → Int32) (B : List Int) : Prop := FI 119 1 = Int32.ofNat B.length ∧ (B.length ≤ 600 → ∀ i, i < B.length → (FI 120 i).toInt = B.getD i 0)
def c_fr (FI F2 : Nat → Nat → Int32) : Prop := ∀ c k, c ≠ 119 → c ≠ 120 → F2 c k = FI c k
def c_ap (n sl : Nat) (SH : Nat → Nat × Nat) (FI : Nat → Nat → Int32) (FL : Nat → Nat → Int64) (FR : Nat → Nat → Option Nat) (s : hS) (A : List Int) : Prop := ∃ F2, s = (n, sl, SH, F2, FL, FR) ∧ c_fr FI F2 ∧ ∀ B, c_vw FI B → c_vw F2 (B ++ A)
section CP
variable {n sl : Nat} {SH : Nat → Nat × Nat} {FI : Nat → Nat → Int32} {FL : Nat → Nat → Int64} {FR : Nat → Nat → Option Nat} {v : Unit} {s : hS}
theorem c_ap_0 : c_ap n sl SH FI FL FR (n, sl, SH, FI, FL, FR) [] := ⟨FI, rfl, fun _ _ _ _ => rfl, fun B h => by rw [List.append_nil]; exact h⟩
theorem c_ap_t {F1 : Nat → Nat → Int32} {A A2 : List Int} (h : c_ap n sl SH FI FL FR (n, sl, SH, F1, FL, FR) A) (h2 : c_ap n sl SH F1 FL FR s A2) : c_ap n sl SH FI FL FR s (A ++ A2) := by
  obtain ⟨F2, e, f1, a1⟩ := h
  cases e
  obtain ⟨F3, e, f2, a2⟩ := h2
  exact ⟨F3, e, fun c k g1 g2 => (f2 c k g1 g2).trans (f1 c k g1 g2), fun B hB => by rw [← List.append_assoc]; exact a2 _ (a1 B hB)⟩
theorem c_ap_cg {A A2 : List Int} (h : c_ap n sl SH FI FL FR s A) (e : A = A2) : c_ap n sl SH FI FL FR s A2 := e ▸ h
theorem c_put {a : Int32} {b : Int} (hQ : h_S n SH) (h : RX0_put a n sl SH FI FL FR v s) (hb : a.toInt % 256 = b) : c_ap n sl SH FI FL FR s [b] := by
  have hz : (Int32.ofNat (SH 120).2).toInt = 600 := by rw [s120 hQ]; decide
  have e1 : ∀ B : List Int, FI 119 1 = Int32.ofNat B.length → FI 119 1 + (1 : Int32) = Int32.ofNat (B ++ [b]).length := by
    intro B hB
    rw [hB, List.length_append]
    exact (Int32.ofNat_add _ _).symm
  rcases h with ⟨h1, h⟩ | ⟨h1, h⟩
  · obtain ⟨hp, -, rfl⟩ := h
    refine ⟨_, rfl, fun c k g1 g2 => by rw [h_up_nc g1, h_up_nc g2], fun B hB => ⟨by rw [h_up_eq]; exact e1 B hB.1, fun hl i hi => ?_⟩⟩
    rw [List.length_append, List.length_singleton] at hl hi
    have hj : (FI 119 1).toInt.toNat = B.length := by rw [hB.1, i_lit (by omega)]; omega
    rw [h_up_nc (by decide), hj]
    by_cases hi2 : i = B.length
    · subst hi2
      rw [h_up_eq, i_m255, hb]
      simp
    · rw [h_up_ne hi2, hB.2 (by omega) i (by omega)]
      rw [l_getD_app (by omega)]
  · obtain ⟨-, rfl⟩ := h
    refine ⟨_, rfl, fun c k g1 g2 => by rw [h_up_nc g1], fun B hB => ⟨by rw [h_up_eq]; exact e1 B hB.1, fun hl i hi => ?_⟩⟩
    exfalso
    rw [List.length_append, List.length_singleton] at hl
    rw [hB.1, i_lit (by omega), hz] at h1
    omega
theorem c_num_G {a1 : Int64} {a2 : Int32} {m : Nat} (hQ : h_S n SH) (h0 : 0 ≤ a1.toInt) (hm : a2.toInt = m) (h8 : m ≤ 8) : ∀ (g : Nat) (l : Int32) (FI : Nat → Nat → Int32) (v : Unit) (s : hS) (i : Nat), GX0_putNumber_3 a1 a2 g l n sl SH FI FL FR v s → l.toInt = i → i ≤ m → c_ap n sl SH FI FL FR s (lc_by (a1.toInt / 256 ^ i) (m - i)) := by
  intro g
  induction g with
  | zero => intro l FI v s i h; exact h.elim
  | succ g ih =>
    intro l FI v s i h hl hi
    have c8 : ((8 : Int32)).toInt = 8 := by decide
    rcases h with ⟨h1, h⟩ | ⟨h1, h⟩
    · rcases h with ⟨h2, h⟩ | ⟨h2, h⟩
      · obtain ⟨v1, n1, sl1, SH1, FI1, FL1, FR1, hc, h⟩ := h
        have h3 : i < m := by omega
        have hs := l_ushr8 (x := a1) h0 hl (by omega)
        have q1 := c_put (b := (a1.toInt / 256 ^ i) % 256) hQ hc (by rw [l_i_m256, hs])
        have q1' := q1
        obtain ⟨F2, e, -⟩ := q1'
        cases e
        have q2 := ih (l + 1) FI1 v s (i + 1) h (i_add hl (by decide : ((1 : Int32)).toInt = 1) (by omega) (by omega)) (by omega)
        refine c_ap_cg (c_ap_t q1 q2) ?_
        rw [show m - i = (m - (i + 1)) + 1 by omega, lc_by, Int.pow_succ, Int.ediv_ediv_of_nonneg (Int.pow_nonneg (by decide))]
        rfl
      · rw [c8] at h2
        exfalso
        omega
    · obtain ⟨-, rfl⟩ := h
      have h2 : i = m := by omega
      subst h2
      rw [Nat.sub_self]
      exact c_ap_0
theorem c_num {a1 : Int64} {a2 : Int32} {m : Nat} (hQ : h_S n SH) (h : RX0_putNumber a1 a2 n sl SH FI FL FR v s) (h0 : 0 ≤ a1.toInt) (hm : a2.toInt = m) (h8 : m ≤ 8) : c_ap n sl SH FI FL FR s (lc_by a1.toInt m) := by
  obtain ⟨g, h⟩ := h
  have q := c_num_G hQ h0 hm h8 g 0 FI v s 0 h (by decide) (by omega)
  simpa using q
theorem c_leb_G {a1 : Int64} (hQ : h_S n SH) : ∀ (g : Nat) (x : Int64) (l : Int32) (FI : Nat → Nat → Int32) (v : Unit) (s : hS) (k : Nat), GX0_putLeb_5 a1 g x l n sl SH FI FL FR v s → l.toInt = k → k ≤ 9 → 0 ≤ x.toInt → x.toInt < p7 k → c_ap n sl SH FI FL FR s (lc_u (9 - k) x.toInt) := by
  intro g
  induction g with
  | zero => intro x l FI v s k h; exact h.elim
  | succ g ih =>
    intro x l FI v s k h hl hk h0 hp
    have e127 : ((127 : Int64)).toInt = 127 := by decide
    have e0 : ((0 : Int64)).toInt = 0 := by decide
    have c9 : ((9 : Int32)).toInt = 9 := by decide
    have fin : (k = 9 ∨ x.toInt ≤ 127) → P_bi (RX0_put (x.toInt32) n sl SH FI FL FR) (fun v3 n3 sl3 SH3 FI3 FL3 FR3 => P_ret () (n3, sl3, SH3, FI3, FL3, FR3)) v s → c_ap n sl SH FI FL FR s (lc_u (9 - k) x.toInt) := by
      intro h1 h
      obtain ⟨v1, n1, sl1, SH1, FI1, FL1, FR1, hc, -, rfl⟩ := h
      have hx : x.toInt ≤ 127 := by
        rcases h1 with rfl | h1
        · have := p7_9 hp (by omega)
          omega
        · exact h1
      have q1 := c_put (b := x.toInt) hQ hc (by rw [l_i_m256]; omega)
      refine c_ap_cg q1 ?_
      cases h9 : 9 - k with
      | zero => rfl
      | succ z => rw [lc_u, if_neg (by omega)]
    rcases h with ⟨h1, h⟩ | ⟨h1, h⟩
    · rw [hl, c9] at h1
      rcases h with ⟨h2, h⟩ | ⟨h2, h⟩
      · rw [e0] at h2
        exfalso
        omega
      · rcases h with ⟨h3, h⟩ | ⟨h3, h⟩
        · rw [e127] at h3
          obtain ⟨v1, n1, sl1, SH1, FI1, FL1, FR1, hc, h⟩ := h
          have hs := l_ushr7 (x := x) h0
          have q1 := c_put (b := x.toInt % 128 + 128) hQ hc (l_or128 x)
          have q1' := q1
          obtain ⟨F2, e, -⟩ := q1'
          cases e
          have q2 := ih _ (l + 1) FI1 v s (k + 1) h (i_add hl (by decide : ((1 : Int32)).toInt = 1) (by omega) (by omega)) (by omega) (by rw [hs]; omega) (by rw [hs]; exact p7_s hp (by omega) (by omega))
          rw [hs] at q2
          refine c_ap_cg (c_ap_t q1 q2) ?_
          rw [show 9 - k = (9 - (k + 1)) + 1 by omega, lc_u, if_pos h3]
          rfl
        · rw [e127] at h3
          exact fin (Or.inr (by omega)) h
    · rw [hl, c9] at h1
      exact fin (Or.inl (by omega)) h
theorem c_leb {a1 : Int64} (hQ : h_S n SH) (h : RX0_putLeb a1 n sl SH FI FL FR v s) (h0 : 0 ≤ a1.toInt) : c_ap n sl SH FI FL FR s (lc_u 9 a1.toInt) := by
  obtain ⟨g, h⟩ := h
  exact c_leb_G hQ g a1 0 FI v s 0 h (by decide) (by omega) h0 (p7_0 (l_rng a1).2)
theorem c_sleb_G {a1 : Int64} (hQ : h_S n SH) : ∀ (g : Nat) (x : Int64) (l : Int32) (FI : Nat → Nat → Int32) (v : Unit) (s : hS) (k : Nat), GX0_putSignedLeb_5 a1 g x l n sl SH FI FL FR v s → l.toInt = k → k ≤ 9 → c_ap n sl SH FI FL FR s (lc_s (9 - k) x.toInt) := by
  intro g
  induction g with
  | zero => intro x l FI v s k h; exact h.elim
  | succ g ih =>
    intro x l FI v s k h hl hk
    have e63 : ((63 : Int64)).toInt = 63 := by decide
    have e64 : ((-64 : Int64)).toInt = -64 := by decide
    have c9 : ((9 : Int32)).toInt = 9 := by decide
    have key : k < 9 → (x.toInt < -64 ∨ 63 < x.toInt) → RX0_putSignedLeb_28 (GX0_putSignedLeb_5 a1 g) a1 x l n sl SH FI FL FR v s → c_ap n sl SH FI FL FR s (lc_s (9 - k) x.toInt) := by
      intro hk9 h1 h
      obtain ⟨v1, n1, sl1, SH1, FI1, FL1, FR1, hc, h⟩ := h
      have hs := l_shr7 (x := x) rfl
      have q1 := c_put (b := x.toInt % 128 + 128) hQ hc (l_or128 x)
      have q1' := q1
      obtain ⟨F2, e, -⟩ := q1'
      cases e
      have q2 := ih _ (l + 1) FI1 v s (k + 1) h (i_add hl (by decide : ((1 : Int32)).toInt = 1) (by omega) (by omega)) (by omega)
      rw [hs] at q2
      refine c_ap_cg (c_ap_t q1 q2) ?_
      rw [show 9 - k = (9 - (k + 1)) + 1 by omega, lc_s, if_pos h1]
      rfl
    have fin : (k = 9 ∨ ¬ (x.toInt < -64 ∨ 63 < x.toInt)) → P_bi (RX0_put ((x &&& (127 : Int64)).toInt32) n sl SH FI FL FR) (fun v3 n3 sl3 SH3 FI3 FL3 FR3 => P_ret () (n3, sl3, SH3, FI3, FL3, FR3)) v s → c_ap n sl SH FI FL FR s (lc_s (9 - k) x.toInt) := by
      intro h1 h
      obtain ⟨v1, n1, sl1, SH1, FI1, FL1, FR1, hc, -, rfl⟩ := h
      have q1 := c_put (b := x.toInt % 128) hQ hc (l_and127 x)
      refine c_ap_cg q1 ?_
      cases h9 : 9 - k with
      | zero => rfl
      | succ z => rw [lc_s, if_neg (by omega)]
    rcases h with ⟨h1, h⟩ | ⟨h1, h⟩
    · rw [hl, c9] at h1
      rcases h with ⟨h2, h⟩ | ⟨h2, h⟩
      · rw [e64] at h2
        exact key (by omega) (Or.inl h2) h
      · rw [e64] at h2
        rcases h with ⟨h3, h⟩ | ⟨h3, h⟩
        · rw [e63] at h3
          exact key (by omega) (Or.inr h3) h
        · rw [e63] at h3
          exact fin (Or.inr (by omega)) h
    · rw [hl, c9] at h1
      exact fin (Or.inl (by omega)) h
theorem c_sleb {a1 : Int64} (hQ : h_S n SH) (h : RX0_putSignedLeb a1 n sl SH FI FL FR v s) : c_ap n sl SH FI FL FR s (lc_s 9 a1.toInt) := by
  obtain ⟨g, h⟩ := h
  exact c_sleb_G hQ g a1 0 FI v s 0 h (by decide) (by omega)
/-- a byte, then a number -/
theorem c_put_num {a : Int32} {a1 : Int64} {a2 : Int32} {b : Int} {m : Nat} (hQ : h_S n SH) (h : P_bi (RX0_put a n sl SH FI FL FR) (fun v4 n4 sl4 SH4 FI4 FL4 FR4 => P_bi (RX0_putNumber a1 a2 n4 sl4 SH4 FI4 FL4 FR4) (fun v5 n5 sl5 SH5 FI5 FL5 FR5 => P_ret () (n5, sl5, SH5, FI5, FL5, FR5))) v s) (hb : a.toInt % 256 = b) (h0 : 0 ≤ a1.toInt) (hm : a2.toInt = m) (h8 : m ≤ 8) : c_ap n sl SH FI FL FR s (b :: lc_by a1.toInt m) := by
  obtain ⟨v1, n1, sl1, SH1, FI1, FL1, FR1, hc, v2, n2, sl2, SH2, FI2, FL2, FR2, hc2, -, rfl⟩ := h
  have q1 := c_put hQ hc hb
  have q1' := q1
  obtain ⟨F2, e, -⟩ := q1'
  cases e
  exact c_ap_t q1 (c_num hQ hc2 h0 hm h8)
theorem c_const {a1 : Int64} (hQ : h_S n SH) (h : RX0_putConstant a1 n sl SH FI FL FR v s) (h0 : 0 ≤ a1.toInt) : c_ap n sl SH FI FL FR s (lc_c a1.toInt) := by
  have c1 : ((31 : Int64)).toInt = 31 := by decide
  have c2 : ((255 : Int64)).toInt = 255 := by decide
  have c3 : ((65535 : Int64)).toInt = 65535 := by decide
  have c4 : ((4294967295 : Int64)).toInt = 4294967295 := by decide
  unfold lc_c
  rcases h with ⟨h1, h⟩ | ⟨h1, h⟩
  · rw [c1] at h1
    rw [if_neg (by omega)]
    rcases h with ⟨h2, h⟩ | ⟨h2, h⟩
    · rw [c2] at h2
      rw [if_neg (by omega)]
      rcases h with ⟨h3, h⟩ | ⟨h3, h⟩
      · rw [c3] at h3
        rw [if_neg (by omega)]
        rcases h with ⟨h4, h⟩ | ⟨h4, h⟩
        · rw [c4] at h4
          rw [if_neg (by omega)]
          exact c_put_num hQ h (by decide) h0 (by decide) (by omega)
        · rw [c4] at h4
          rw [if_pos (by omega)]
          exact c_put_num hQ h (by decide) h0 (by decide) (by omega)
      · rw [c3] at h3
        rw [if_pos (by omega)]
        exact c_put_num hQ h (by decide) h0 (by decide) (by omega)
    · rw [c2] at h2
      rw [if_pos (by omega)]
      exact c_put_num hQ h (by decide) h0 (by decide) (by omega)
  · rw [c1] at h1
    rw [if_pos (by omega)]
    obtain ⟨v1, n1, sl1, SH1, FI1, FL1, FR1, hc, -, rfl⟩ := h
    have e : ((48 : Int32) + a1.toInt32).toInt = 48 + a1.toInt := i_add (by decide : ((48 : Int32)).toInt = 48) (by rw [Int64.toInt_toInt32, Int.bmod_def]; split <;> omega) (by omega) (by omega)
    exact c_put hQ hc (by rw [e]; omega)
/-- % r or fb, and what is added to it -/
theorem c_based {c : Nat} {p : Int64} (hQ : h_S n SH) (h : RX0_putBased (some c) p n sl SH FI FL FR v s) (hk : (FI c 0).toInt = 11 ∨ (FI c 0).toInt = 37) (hr : n_rg (FI c 0).toInt (FL c 1).toInt = true) : c_ap n sl SH FI FL FR s (n_bs (FI c 0).toInt (FL c 1).toInt p.toInt) := by
  have c37 : ((37 : Int32)).toInt = 37 := by decide
  have hg : ((FI c 0).toInt = 5 → 0 ≤ (FL c 1).toInt ∧ (FL c 1).toInt ≤ 999999999999999999) ∧ ((FI c 0).toInt = 37 → 0 ≤ (FL c 1).toInt ∧ (FL c 1).toInt ≤ 31) ∧ ((FI c 0).toInt = 6 → 1 ≤ (FL c 1).toInt ∧ (FL c 1).toInt ≤ 8) := of_decide_eq_true hr
  obtain ⟨c1, e1, h⟩ := h
  cases e1
  unfold n_bs
  rcases h with ⟨h1, h⟩ | ⟨h1, h⟩
  · rw [c37] at h1
    have hw := hg.2.1 h1
    obtain ⟨c3, e3, h⟩ := h
    cases e3
    obtain ⟨v1, n1, sl1, SH1, FI1, FL1, FR1, hc, v2, n2, sl2, SH2, FI2, FL2, FR2, hc2, -, rfl⟩ := h
    have e : ((112 : Int32) + (FL c 1).toInt32).toInt = 112 + (FL c 1).toInt := i_add (by decide : ((112 : Int32)).toInt = 112) (by rw [Int64.toInt_toInt32, Int.bmod_def]; split <;> omega) (by omega) (by omega)
    have q1 := c_put (b := 112 + (FL c 1).toInt) hQ hc (by rw [e]; omega)
    have q1' := q1
    obtain ⟨F2, e, -⟩ := q1'
    cases e
    rw [if_pos h1]
    exact c_ap_t q1 (c_sleb hQ hc2)
  · rw [c37] at h1
    obtain ⟨v1, n1, sl1, SH1, FI1, FL1, FR1, hc, v2, n2, sl2, SH2, FI2, FL2, FR2, hc2, -, rfl⟩ := h
    have q1 := c_put (b := 145) hQ hc (by decide)
    have q1' := q1
    obtain ⟨F2, e, -⟩ := q1'
    cases e
    rw [if_neg h1]
    exact c_ap_t q1 (c_sleb hQ hc2)
theorem c_un {c : Nat} (hQ : h_S n SH) (h : RX0_putUnary (some c) n sl SH FI FL FR v s) (hr : n_rg (FI c 0).toInt (FL c 1).toInt = true) : c_ap n sl SH FI FL FR s (n_un (FI c 0).toInt (FL c 1).toInt) := by
  have c8 : ((8 : Int64)).toInt = 8 := by decide
  have hg : ((FI c 0).toInt = 5 → 0 ≤ (FL c 1).toInt ∧ (FL c 1).toInt ≤ 999999999999999999) ∧ ((FI c 0).toInt = 37 → 0 ≤ (FL c 1).toInt ∧ (FL c 1).toInt ≤ 31) ∧ ((FI c 0).toInt = 6 → 1 ≤ (FL c 1).toInt ∧ (FL c 1).toInt ≤ 8) := of_decide_eq_true hr
  obtain ⟨c1, e1, h⟩ := h
  cases e1
  unfold n_un
  rcases h with ⟨h1, h⟩ | ⟨h1, h⟩
  · have hw := hg.2.2 h1
    rw [if_pos h1]
    obtain ⟨c3, e3, h⟩ := h
    cases e3
    rcases h with ⟨h2, h⟩ | ⟨h2, h⟩
    · rw [c8] at h2
      rw [if_pos h2]
      obtain ⟨v1, n1, sl1, SH1, FI1, FL1, FR1, hc, -, rfl⟩ := h
      exact c_put hQ hc (by decide)
    · rw [c8] at h2
      rw [if_neg h2]
      obtain ⟨v1, n1, sl1, SH1, FI1, FL1, FR1, hc, c7, e7, v2, n2, sl2, SH2, FI2, FL2, FR2, hc2, -, rfl⟩ := h
      cases e7
      have q1 := c_put (b := 148) hQ hc (by decide)
      have q1' := q1
      obtain ⟨F2, e, -⟩ := q1'
      cases e
      exact c_ap_t q1 (c_put (b := (FL c 1).toInt) hQ hc2 (by rw [l_i_m256]; omega))
  · rw [if_neg h1]
    rcases h with ⟨h2, h⟩ | ⟨h2, h⟩
    · rw [if_pos h2]
      obtain ⟨v1, n1, sl1, SH1, FI1, FL1, FR1, hc, -, rfl⟩ := h
      exact c_put hQ hc (by decide)
    · rw [if_neg h2]
      rcases h with ⟨h3, h⟩ | ⟨h3, h⟩
      · rw [if_pos h3]
        obtain ⟨v1, n1, sl1, SH1, FI1, FL1, FR1, hc, -, rfl⟩ := h
        exact c_put hQ hc (by decide)
      · rw [if_neg h3]
        rcases h with ⟨h4, h⟩ | ⟨h4, h⟩
        · rw [if_pos h4]
          obtain ⟨v1, n1, sl1, SH1, FI1, FL1, FR1, hc, -, rfl⟩ := h
          exact c_put hQ hc (by decide)
        · rw [if_neg h4]
          obtain ⟨-, rfl⟩ := h
          exact c_ap_0
end CP
