/-! THE REFERENCE WRITES: what its methods write behind the bytes B that stand. -/
theorem l_getD_app {B C : List Int} {i : Nat} (h : i < B.length) : (B ++ C).getD i 0 = B.getD i 0 := by
  simp only [List.getD_eq_getElem?_getD]
  rw [List.getElem?_append_left h]
theorem i_m255 (x : Int32) : (x &&& 255).toInt = x.toInt % 256 := by
  have e1 : (x &&& 255).toBitVec.toNat = x.toBitVec.toNat % 256 := by
    rw [Int32.toBitVec_and, BitVec.toNat_and]
    exact Nat.and_two_pow_sub_one_eq_mod _ 8
  have e2 : x.toInt = x.toBitVec.toInt := rfl
  have e3 : (x &&& 255).toInt = (x &&& 255).toBitVec.toInt := rfl
  rw [BitVec.toInt_eq_toNat_cond] at e2 e3
  have b1 := x.toBitVec.isLt
  split at e2 <;> split at e3 <;> omega
theorem l_m127 (x : Int64) : (x &&& 127).toInt = x.toInt % 128 := by
  have e1 : (x &&& 127).toBitVec.toNat = x.toBitVec.toNat % 128 := by
    rw [Int64.toBitVec_and, BitVec.toNat_and]
    exact Nat.and_two_pow_sub_one_eq_mod _ 7
  have e2 : x.toInt = x.toBitVec.toInt := rfl
  have e3 : (x &&& 127).toInt = (x &&& 127).toBitVec.toInt := rfl
  rw [BitVec.toInt_eq_toNat_cond] at e2 e3
  have b1 := x.toBitVec.isLt
  split at e2 <;> split at e3 <;> omega
theorem l_i_m256 (x : Int64) : x.toInt32.toInt % 256 = x.toInt % 256 := by
  rw [Int64.toInt_toInt32, Int.bmod_def]
  split <;> omega
theorem l_127 {x : Int64} : ∃ r : Nat, r < 128 ∧ (r : Int) = x.toInt % 128 ∧ x &&& 127 = Int64.ofNat r := by
  have h := l_m127 x
  refine ⟨(x.toInt % 128).toNat, by omega, by omega, Int64.toInt_inj.mp ?_⟩
  rw [h, Int64.toInt_ofNat_of_lt (by omega)]
  omega
theorem l_or128 (x : Int64) : ((x &&& 127).toInt32 ||| 128).toInt % 256 = x.toInt % 128 + 128 := by
  obtain ⟨r, h1, h2, h3⟩ := l_127 (x := x)
  rw [h3, ← h2]
  have : ∀ r : Nat, r < 128 → ((Int64.ofNat r).toInt32 ||| 128).toInt % 256 = (r : Int) + 128 := by decide
  exact this r h1
theorem l_and127 (x : Int64) : ((x &&& 127).toInt32).toInt % 256 = x.toInt % 128 := by
  obtain ⟨r, h1, h2, h3⟩ := l_127 (x := x)
  rw [h3, ← h2]
  have : ∀ r : Nat, r < 128 → ((Int64.ofNat r).toInt32).toInt % 256 = (r : Int) := by decide
  exact this r h1
theorem l_sshr (y : Int64) : ∀ k : Nat, k < 8 → (y >>> (Int64.ofNat (8 * k))).toBitVec = y.toBitVec.sshiftRight (8 * k)
  | 0, _ => by rw [Int64.toBitVec_shiftRight]; rfl
  | 1, _ => by rw [Int64.toBitVec_shiftRight]; rfl
  | 2, _ => by rw [Int64.toBitVec_shiftRight]; rfl
  | 3, _ => by rw [Int64.toBitVec_shiftRight]; rfl
  | 4, _ => by rw [Int64.toBitVec_shiftRight]; rfl
  | 5, _ => by rw [Int64.toBitVec_shiftRight]; rfl
  | 6, _ => by rw [Int64.toBitVec_shiftRight]; rfl
  | 7, _ => by rw [Int64.toBitVec_shiftRight]; rfl
  | k + 8, h => by omega
theorem l_shr8 {x : Int64} {l : Int32} {i : Nat} (hl : l.toInt = i) (hi : i < 8) : (x >>> ((((8 : Int32)) * l).toInt64 &&& 63)).toInt = x.toInt / 256 ^ i := by
  have e0 : l = Int32.ofNat i := i_eqv (by rw [hl, i_lit (by omega)])
  subst e0
  have key : ∀ k : Nat, k < 8 → (((8 : Int32) * Int32.ofNat k).toInt64 &&& 63) = Int64.ofNat (8 * k) := by decide
  rw [key i hi]
  show (x >>> (Int64.ofNat (8 * i))).toBitVec.toInt = _
  rw [l_sshr x i hi, BitVec.toInt_sshiftRight, Int.shiftRight_eq_div_pow, Nat.pow_mul, Int.natCast_pow]
  rfl
def e_vw (FI : Nat → Nat → Int32) (B : List Int) : Prop := FI 121 73 = Int32.ofNat B.length ∧ (B.length ≤ 4000 → ∀ i, i < B.length → (FI 154 i).toInt = B.getD i 0)
theorem e_vw_f {FI : Nat → Nat → Int32} {B : List Int} {k : Nat} {x : Int32} (h : e_vw FI B) (hk : k ≠ 73) : e_vw (h_up FI 121 k x) B := by
  refine ⟨?_, fun h1 i h2 => ?_⟩
  · rw [h_up_x (by rintro ⟨-, e⟩; exact hk e.symm)]; exact h.1
  · rw [h_up_x (by rintro ⟨e, -⟩; exact absurd e (by decide))]; exact h.2 h1 i h2
theorem e_vw_c {FI : Nat → Nat → Int32} {B : List Int} {c k : Nat} {x : Int32} (h : e_vw FI B) (h1 : c ≠ 121) (h2 : c ≠ 154) : e_vw (h_up FI c k x) B := by
  refine ⟨?_, fun h3 i h4 => ?_⟩
  · rw [h_up_x (by rintro ⟨e, -⟩; exact h1 e.symm)]; exact h.1
  · rw [h_up_x (by rintro ⟨e, -⟩; exact h2 e.symm)]; exact h.2 h3 i h4
def e_ap (F F2 : Nat → Nat → Int32) (c : List Int) : Prop := ∀ B, e_vw F B → e_vw F2 (B ++ c)
theorem e_ap_0 {F : Nat → Nat → Int32} : e_ap F F [] := fun B h => by rw [List.append_nil]; exact h
theorem e_ap_tr {F F2 F3 : Nat → Nat → Int32} {c c2 : List Int} (h : e_ap F F2 c) (h2 : e_ap F2 F3 c2) : e_ap F F3 (c ++ c2) := fun B hB => by rw [← List.append_assoc]; exact h2 _ (h B hB)
theorem e_ap_cg {F F2 : Nat → Nat → Int32} {c c2 : List Int} (h : e_ap F F2 c) (e : c = c2) : e_ap F F2 c2 := e ▸ h
section EM
variable {n sl : Nat} {SH : Nat → Nat × Nat} {FI : Nat → Nat → Int32} {FL : Nat → Nat → Int64} {FR : Nat → Nat → Option Nat} {v : Unit} {s : hS}
theorem em_emit {a : Int32} {b : Int} (h : RX12_emit a n sl SH FI FL FR v s) (hb : a.toInt % 256 = b) : e_ap FI s.2.2.2.1 [b] := by
  intro B hB
  have e4 : ((4000 : Int32)).toInt = 4000 := by decide
  have e1 : FI 121 73 + (1 : Int32) = Int32.ofNat (B ++ [b]).length := by
    rw [hB.1, List.length_append]
    exact (Int32.ofNat_add _ _).symm
  rcases h with ⟨h1, h⟩ | ⟨h1, h⟩
  · obtain ⟨hp, -, rfl⟩ := h
    refine ⟨?_, fun hl i hi => ?_⟩
    · dsimp only
      rw [h_up_eq]; exact e1
    · try dsimp only
      rw [List.length_append, List.length_singleton] at hl hi
      have hj : (FI 121 73).toInt.toNat = B.length := by rw [hB.1, i_lit (by omega)]; omega
      rw [h_up_x (by rintro ⟨e, -⟩; exact absurd e (by decide)), hj]
      by_cases hi2 : i = B.length
      · subst hi2
        rw [h_up_eq, i_m255, hb]
        simp
      · rw [h_up_ne hi2, hB.2 (by omega) i (by omega)]
        rw [l_getD_app (by omega)]
  · obtain ⟨-, rfl⟩ := h
    refine ⟨?_, fun hl i hi => ?_⟩
    · dsimp only
      rw [h_up_eq]; exact e1
    · exfalso
      rw [List.length_append, List.length_singleton] at hl
      rw [hB.1, i_lit (by omega), e4] at h1
      omega
theorem em_emits_G {a1 : Int64} {a2 : Int32} {m : Nat} (hm : a2.toInt = m) (h8 : m ≤ 8) : ∀ (g : Nat) (l : Int32) (n sl : Nat) (SH : Nat → Nat × Nat) (FI : Nat → Nat → Int32) (FL : Nat → Nat → Int64) (FR : Nat → Nat → Option Nat) (v : Unit) (s : hS) (i : Nat), GX12_emits_3 a1 a2 g l n sl SH FI FL FR v s → l.toInt = i → i ≤ m → e_ap FI s.2.2.2.1 (lc_by (a1.toInt / 256 ^ i) (m - i)) := by
  intro g
  induction g with
  | zero => intro l n sl SH FI FL FR v s i h; exact h.elim
  | succ g ih =>
    intro l n sl SH FI FL FR v s i h hl hi
    rcases h with ⟨h1, h⟩ | ⟨h1, h⟩
    · obtain ⟨v1, n1, sl1, SH1, FI1, FL1, FR1, hc, h⟩ := h
      have h2 : i < m := by omega
      have hs := l_shr8 (x := a1) hl (by omega)
      have q1 := em_emit (b := (a1.toInt / 256 ^ i) % 256) hc (by rw [l_i_m256, hs])
      have q2 := ih (l + 1) n1 sl1 SH1 FI1 FL1 FR1 v s (i + 1) h (i_add hl (by decide : ((1 : Int32)).toInt = 1) (by omega) (by omega)) (by omega)
      refine e_ap_cg (e_ap_tr q1 q2) ?_
      rw [show m - i = (m - (i + 1)) + 1 by omega, lc_by, Int.pow_succ, Int.ediv_ediv_of_nonneg (Int.pow_nonneg (by decide))]
      rfl
    · obtain ⟨-, rfl⟩ := h
      have h2 : i = m := by omega
      subst h2
      rw [Nat.sub_self]
      exact e_ap_0
theorem em_emits {a1 : Int64} {a2 : Int32} {m : Nat} (h : RX12_emits a1 a2 n sl SH FI FL FR v s) (hm : a2.toInt = m) (h8 : m ≤ 8) : e_ap FI s.2.2.2.1 (lc_by a1.toInt m) := by
  obtain ⟨g, h⟩ := h
  have q := em_emits_G hm h8 g 0 n sl SH FI FL FR v s 0 h (by decide) (by omega)
  simpa using q
theorem em_unsigned_G {a1 : Int64} : ∀ (g : Nat) (x : Int64) (n sl : Nat) (SH : Nat → Nat × Nat) (FI : Nat → Nat → Int32) (FL : Nat → Nat → Int64) (FR : Nat → Nat → Option Nat) (v : Unit) (s : hS) (k : Nat), GX12_unsigned_2 a1 g x n sl SH FI FL FR v s → k ≤ 9 → 0 ≤ x.toInt → x.toInt < p7 k → e_ap FI s.2.2.2.1 (lc_u (9 - k) x.toInt) := by
  intro g
  induction g with
  | zero => intro x n sl SH FI FL FR v s k h; exact h.elim
  | succ g ih =>
    intro x n sl SH FI FL FR v s k h hk h0 hp
    have e127 : ((127 : Int64)).toInt = 127 := by decide
    rcases h with ⟨h1, h⟩ | ⟨h1, h⟩
    · obtain ⟨v1, n1, sl1, SH1, FI1, FL1, FR1, hc, h⟩ := h
      rw [e127] at h1
      have hk9 : k < 9 := by
        rcases Nat.lt_or_ge k 9 with h | h
        · exact h
        · have := p7_9 hp (by omega)
          omega
      have hs := l_shr7 (x := x) rfl
      have q1 := em_emit (b := x.toInt % 128 + 128) hc (l_or128 x)
      have q2 := ih _ n1 sl1 SH1 FI1 FL1 FR1 v s (k + 1) h (by omega) (by rw [hs]; omega) (by rw [hs]; exact p7_s hp (by omega) (by omega))
      rw [hs] at q2
      refine e_ap_cg (e_ap_tr q1 q2) ?_
      rw [show 9 - k = (9 - (k + 1)) + 1 by omega, lc_u, if_pos h1]
      rfl
    · obtain ⟨v1, n1, sl1, SH1, FI1, FL1, FR1, hc, h⟩ := h
      obtain ⟨-, rfl⟩ := h
      rw [e127] at h1
      have q1 := em_emit (b := x.toInt) hc (by rw [l_i_m256]; omega)
      refine e_ap_cg q1 ?_
      cases h9 : 9 - k with
      | zero => rfl
      | succ z => rw [lc_u, if_neg h1]
theorem em_unsigned {a1 : Int64} (h : RX12_unsigned a1 n sl SH FI FL FR v s) (h0 : 0 ≤ a1.toInt) : e_ap FI s.2.2.2.1 (lc_u 9 a1.toInt) := by
  obtain ⟨g, h⟩ := h
  exact em_unsigned_G g a1 n sl SH FI FL FR v s 0 h (by omega) h0 (p7_0 (l_rng a1).2)
theorem em_signed_G {a1 : Int64} : ∀ (g : Nat) (x : Int64) (n sl : Nat) (SH : Nat → Nat × Nat) (FI : Nat → Nat → Int32) (FL : Nat → Nat → Int64) (FR : Nat → Nat → Option Nat) (v : Unit) (s : hS) (k : Nat), GX12_signed_2 a1 g x n sl SH FI FL FR v s → k ≤ 9 → -p7 k ≤ x.toInt → x.toInt < p7 k → e_ap FI s.2.2.2.1 (lc_s (9 - k) x.toInt) := by
  intro g
  induction g with
  | zero => intro x n sl SH FI FL FR v s k h; exact h.elim
  | succ g ih =>
    intro x n sl SH FI FL FR v s k h hk hm hp
    have e63 : ((63 : Int64)).toInt = 63 := by decide
    have e64 : ((-64 : Int64)).toInt = -64 := by decide
    have key : (x.toInt < -64 ∨ 63 < x.toInt) → RX12_signed_18 (GX12_signed_2 a1 g) a1 x n sl SH FI FL FR v s → e_ap FI s.2.2.2.1 (lc_s (9 - k) x.toInt) := by
      intro h1 h
      obtain ⟨v1, n1, sl1, SH1, FI1, FL1, FR1, hc, h⟩ := h
      have hk9 : k < 9 := by
        rcases Nat.lt_or_ge k 9 with h | h
        · exact h
        · have := p7_9 hp (by omega)
          have := p7_m9 hm (by omega)
          omega
      have hs := l_shr7 (x := x) rfl
      have q1 := em_emit (b := x.toInt % 128 + 128) hc (l_or128 x)
      have q2 := ih _ n1 sl1 SH1 FI1 FL1 FR1 v s (k + 1) h (by omega) (by rw [hs]; exact p7_ms hm (by omega) (by omega)) (by rw [hs]; exact p7_s hp (by omega) (by omega))
      rw [hs] at q2
      refine e_ap_cg (e_ap_tr q1 q2) ?_
      rw [show 9 - k = (9 - (k + 1)) + 1 by omega, lc_s, if_pos h1]
      rfl
    rcases h with ⟨h1, h⟩ | ⟨h1, h⟩
    · exact key (Or.inl (by rw [e64] at h1; exact h1)) h
    · rcases h with ⟨h2, h⟩ | ⟨h2, h⟩
      · exact key (Or.inr (by rw [e63] at h2; exact h2)) h
      · obtain ⟨v1, n1, sl1, SH1, FI1, FL1, FR1, hc, h⟩ := h
        obtain ⟨-, rfl⟩ := h
        rw [e64] at h1
        rw [e63] at h2
        have q1 := em_emit (b := x.toInt % 128) hc (l_and127 x)
        refine e_ap_cg q1 ?_
        cases h9 : 9 - k with
        | zero => rfl
        | succ z => rw [lc_s, if_neg (by omega)]
theorem em_signed {a1 : Int64} (h : RX12_signed a1 n sl SH FI FL FR v s) : e_ap FI s.2.2.2.1 (lc_s 9 a1.toInt) := by
  obtain ⟨g, h⟩ := h
  exact em_signed_G g a1 n sl SH FI FL FR v s 0 h (by omega) (p7_m0 (l_rng a1).1) (p7_0 (l_rng a1).2)
theorem em_push {a1 : Int64} (h : RX12_push a1 n sl SH FI FL FR v s) (h0 : 0 ≤ a1.toInt) : e_ap FI s.2.2.2.1 (lc_c a1.toInt) := by
  have c1 : ((31 : Int64)).toInt = 31 := by decide
  have c2 : ((255 : Int64)).toInt = 255 := by decide
  have c3 : ((65535 : Int64)).toInt = 65535 := by decide
  have c4 : ((4294967295 : Int64)).toInt = 4294967295 := by decide
  unfold lc_c
  rcases h with ⟨h1, h⟩ | ⟨h1, h⟩
  · rw [c1] at h1
    rw [if_neg (by omega)]
    rcases h with ⟨h2, h⟩ | ⟨h2, h⟩
    · rw [c2] at h2
      rw [if_neg (by omega)]
      rcases h with ⟨h3, h⟩ | ⟨h3, h⟩
      · rw [c3] at h3
        rw [if_neg (by omega)]
        rcases h with ⟨h4, h⟩ | ⟨h4, h⟩
        · rw [c4] at h4
          rw [if_neg (by omega)]
          obtain ⟨v1, n1, sl1, SH1, FI1, FL1, FR1, hc, h⟩ := h
          obtain ⟨v2, n2, sl2, SH2, FI2, FL2, FR2, hd, h⟩ := h
          obtain ⟨-, rfl⟩ := h
          exact e_ap_tr (em_emit (b := 14) hc (by decide)) (em_emits (m := 8) hd (by decide) (by decide))
        · rw [c4] at h4
          rw [if_pos (by omega)]
          obtain ⟨v1, n1, sl1, SH1, FI1, FL1, FR1, hc, h⟩ := h
          obtain ⟨v2, n2, sl2, SH2, FI2, FL2, FR2, hd, h⟩ := h
          obtain ⟨-, rfl⟩ := h
          exact e_ap_tr (em_emit (b := 12) hc (by decide)) (em_emits (m := 4) hd (by decide) (by decide))
      · rw [c3] at h3
        rw [if_pos (by omega)]
        obtain ⟨v1, n1, sl1, SH1, FI1, FL1, FR1, hc, h⟩ := h
        obtain ⟨v2, n2, sl2, SH2, FI2, FL2, FR2, hd, h⟩ := h
        obtain ⟨-, rfl⟩ := h
        exact e_ap_tr (em_emit (b := 10) hc (by decide)) (em_emits (m := 2) hd (by decide) (by decide))
    · rw [c2] at h2
      rw [if_pos (by omega)]
      obtain ⟨v1, n1, sl1, SH1, FI1, FL1, FR1, hc, h⟩ := h
      obtain ⟨v2, n2, sl2, SH2, FI2, FL2, FR2, hd, h⟩ := h
      obtain ⟨-, rfl⟩ := h
      exact e_ap_tr (em_emit (b := 8) hc (by decide)) (em_emits (m := 1) hd (by decide) (by decide))
  · rw [c1] at h1
    rw [if_pos (by omega)]
    obtain ⟨v1, n1, sl1, SH1, FI1, FL1, FR1, hc, h⟩ := h
    obtain ⟨-, rfl⟩ := h
    refine em_emit hc ?_
    rw [i_add (by decide : ((48 : Int32)).toInt = 48) (l_2i rfl (by omega) (by omega)) (by omega) (by omega)]
    omega
end EM
