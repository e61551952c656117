section
/-! THE REFERENCE WRITES: what its methods write behind the bytes B that stand. -/
theorem l_getD_app {B C : List Int} {i : Nat} (h : i < B.length) : (B ++ C).getD i 0 = B.getD i 0 := by
  simp only [List.getD_eq_getElem?_getD]
  rw [List.getElem?_append_left h]
theorem i_m255 (x : Int32) : (x &&& 255).toInt = x.toInt % 256 := by
  have e1 : (x &&& 255).toBitVec.toNat = x.toBitVec.toNat % 256 := by
    rw [Int32.toBitVec_and, BitVec.toNat_and]
    exact Nat.and_two_pow_sub_one_eq_mod _ 8
  have e2 : x.toInt = x.toBitVec.toInt := rfl
  have e3 : (x &&& 255).toInt = (x &&& 255).toBitVec.toInt := rfl
  rw [BitVec.toInt_eq_toNat_cond] at e2 e3
  have b1 := x.toBitVec.isLt
  split at e2 <;> split at e3 <;> omega
theorem l_m127 (x : Int64) : (x &&& 127).toInt = x.toInt % 128 := by
  have e1 : (x &&& 127).toBitVec.toNat = x.toBitVec.toNat % 128 := by
    rw [Int64.toBitVec_and, BitVec.toNat_and]
    exact Nat.and_two_pow_sub_one_eq_mod _ 7
  have e2 : x.toInt = x.toBitVec.toInt := rfl
  have e3 : (x &&& 127).toInt = (x &&& 127).toBitVec.toInt := rfl
  rw [BitVec.toInt_eq_toNat_cond] at e2 e3
  have b1 := x.toBitVec.isLt
  split at e2 <;> split at e3 <;> omega
theorem l_i_m256 (x : Int64) : x.toInt32.toInt % 256 = x.toInt % 256 := by
  rw [Int64.toInt_toInt32, Int.bmod_def]
  split <;> omega
theorem l_127 {x : Int64} : ∃ r : Nat, r < 128 ∧ (r : Int) = x.toInt % 128 ∧ x &&& 127 = Int64.ofNat r := by
  have h := l_m127 x
  refine ⟨(x.toInt % 128).toNat, by omega, by omega, Int64.toInt_inj.mp ?_⟩
  rw [h, Int64.toInt_ofNat_of_lt (by omega)]
  omega
theorem l_or128 (x : Int64) : ((x &&& 127).toInt32 ||| 128).toInt % 256 = x.toInt % 128 + 128 := by
  obtain ⟨r, h1, h2, h3⟩ := l_127 (x := x)
  rw [h3, ← h2]
  have : ∀ r : Nat, r < 128 → ((Int64.ofNat r).toInt32 ||| 128).toInt % 256 = (r : Int) + 128 := by decide
  exact this r h1
theorem l_and127 (x : Int64) : ((x &&& 127).toInt32).toInt % 256 = x.toInt % 128 := by
  obtain ⟨r, h1, h2, h3⟩ := l_127 (x := x)
  rw [h3, ← h2]
  have : ∀ r : Nat, r < 128 → ((Int64.ofNat r).toInt32).toInt % 256 = (r : Int) := by decide
  exact this r h1
theorem l_sshr (y : Int64) : ∀ k : Nat, k < 8 → (y >>> (Int64.ofNat (8 * k))).toBitVec = y.toBitVec.sshiftRight (8 * k)
  | 0, _ => by rw [Int64.toBitVec_shiftRight]; rfl
  | 1, _ => by rw [Int64.toBitVec_shiftRight]; rfl
  | 2, _ => by rw [Int64.toBitVec_shiftRight]; rfl
  | 3, _ => by rw [Int64.toBitVec_shiftRight]; rfl
  | 4, _ => by rw [Int64.toBitVec_shiftRight]; rfl
  | 5, _ => by rw [Int64.toBitVec_shiftRight]; rfl
  | 6, _ => by rw [Int64.toBitVec_shiftRight]; rfl
  | 7, _ => by rw [Int64.toBitVec_shiftRight]; rfl
  | k + 8, h => by omega
theorem l_shr8 {x : Int64} {l : Int32} {i : Nat} (hl : l.toInt = i) (hi : i < 8) : (x >>> ((((8 : Int32)) * l).toInt64 &&& 63)).toInt = x.toInt / 256 ^ i := by
  have e0 : l = Int32.ofNat i := i_eqv (by rw [hl, i_lit (by omega)])
  subst e0
  have key : ∀ k : Nat, k < 8 → (((8 : Int32) * Int32.ofNat k).toInt64 &&& 63) = Int64.ofNat (8 * k) := by decide
  rw [key i hi]
  show (x >>> (Int64.ofNat (8 * i))).toBitVec.toInt = _
  rw [l_sshr x i hi, BitVec.toInt_sshiftRight, Int.shiftRight_eq_div_pow, Nat.pow_mul, Int.natCast_pow]
  rfl
def e_vw (FI : Nat → Nat → Int32) (B : List Int) : Prop := FI 121 73 = Int32.ofNat B.length ∧ (B.length ≤ 4000 → ∀ i, i < B.length → (FI 154 i).toInt = B.getD i 0)
theorem e_vw_f {FI : Nat → Nat → Int32} {B : List Int} {k : Nat} {x : Int32} (h : e_vw FI B) (hk : k ≠ 73) : e_vw (h_up FI 121 k x) B := by
  refine ⟨?_, fun h1 i h2 => ?_⟩
  · rw [h_up_x (by rintro ⟨-, e⟩; exact hk e.symm)]; exact h.1
  · rw [h_up_x (by rintro ⟨e, -⟩; exact absurd e (by decide))]; exact h.2 h1 i h2
theorem e_vw_c {FI : Nat → Nat → Int32} {B : List Int} {c k : Nat} {x : Int32} (h : e_vw FI B) (h1 : c ≠ 121) (h2 : c ≠ 154) : e_vw (h_up FI c k x) B := by
  refine ⟨?_, fun h3 i h4 => ?_⟩
  · rw [h_up_x (by rintro ⟨e, -⟩; exact h1 e.symm)]; exact h.1
  · rw [h_up_x (by rintro ⟨e, -⟩; exact h2 e.symm)]; exact h.2 h3 i h4
def e_ap (F F2 : Nat → Nat → Int32) (c : List Int) : Prop := ∀ B, e_vw F B → e_vw F2 (B ++ c)
theorem e_ap_0 {F : Nat → Nat → Int32} : e_ap F F [] := fun B h => by rw [List.append_nil]; exact h
theorem e_ap_tr {F F2 F3 : Nat → Nat → Int32} {c c2 : List Int} (h : e_ap F F2 c) (h2 : e_ap F2 F3 c2) : e_ap F F3 (c ++ c2) := fun B hB => by rw [← List.append_assoc]; exact h2 _ (h B hB)
theorem e_ap_cg {F F2 : Nat → Nat → Int32} {c c2 : List Int} (h : e_ap F F2 c) (e : c = c2) : e_ap F F2 c2 := e ▸ h
section EM
variable {n sl : Nat} {SH : Nat → Nat × Nat} {FI : Nat → Nat → Int32} {FL : Nat → Nat → Int64} {FR : Nat → Nat → Option Nat} {v : Unit} {s : hS}
theorem em_emit {a : Int32} {b : Int} (h : RX12_emit a n sl SH FI FL FR v s) (hb : a.toInt % 256 = b) : e_ap FI s.2.2.2.1 [b] := by
  intro B hB
  have e4 : ((4000 : Int32)).toInt = 4000 := by decide
  have e1 : FI 121 73 + (1 : Int32) = Int32.ofNat (B ++ [b]).length := by
    rw [hB.1, List.length_append]
    exact (Int32.ofNat_add _ _).symm
  rcases h with ⟨h1, h⟩ | ⟨h1, h⟩
  · obtain ⟨hp, -, rfl⟩ := h
    refine ⟨?_, fun hl i hi => ?_⟩
    · dsimp only
      rw [h_up_eq]; exact e1
    · try dsimp only
      rw [List.length_append, List.length_singleton] at hl hi
      have hj : (FI 121 73).toInt.toNat = B.length := by rw [hB.1, i_lit (by omega)]; omega
      rw [h_up_x (by rintro ⟨e, -⟩; exact absurd e (by decide)), hj]
      by_cases hi2 : i = B.length
      · subst hi2
        rw [h_up_eq, i_m255, hb]
        simp
      · rw [h_up_ne hi2, hB.2 (by omega) i (by omega)]
        rw [l_getD_app (by omega)]
  · obtain ⟨-, rfl⟩ := h
    refine ⟨?_, fun hl i hi => ?_⟩
    · dsimp only
      rw [h_up_eq]; exact e1
    · exfalso
      rw [List.length_append, List.length_singleton] at hl
      rw [hB.1, i_lit (by omega), e4] at h1
      omega
theorem em_emits_G {a1 : Int64} {a2 : Int32} {m : Nat} (hm : a2.toInt = m) (h8 : m ≤ 8) : ∀ (g : Nat) (l : Int32) (n sl : Nat) (SH : Nat → Nat × Nat) (FI : Nat → Nat → Int32) (FL : Nat → Nat → Int64) (FR : Nat → Nat → Option Nat) (v : Unit) (s : hS) (i : Nat), GX12_emits_3 a1 a2 g l n sl SH FI FL FR v s → l.toInt = i → i ≤ m → e_ap FI s.2.2.2.1 (lc_by (a1.toInt / 256 ^ i) (m - i)) := by
  intro g
  induction g with
  | zero => intro l n sl SH FI FL FR v s i h; exact h.elim
  | succ g ih =>
    intro l n sl SH FI FL FR v s i h hl hi
    rcases h with ⟨h1, h⟩ | ⟨h1, h⟩
    · obtain ⟨v1, n1, sl1, SH1, FI1, FL1, FR1, hc, h⟩ := h
      have h2 : i < m := by omega
      have hs := l_shr8 (x := a1) hl (by omega)
      have q1 := em_emit (b := (a1.toInt / 256 ^ i) % 256) hc (by rw [l_i_m256, hs])
      have q2 := ih (l + 1) n1 sl1 SH1 FI1 FL1 FR1 v s (i + 1) h (i_add hl (by decide : ((1 : Int32)).toInt = 1) (by omega) (by omega)) (by omega)
      refine e_ap_cg (e_ap_tr q1 q2) ?_
      rw [show m - i = (m - (i + 1)) + 1 by omega, lc_by, Int.pow_succ, Int.ediv_ediv_of_nonneg (Int.pow_nonneg (by decide))]
      rfl
    · obtain ⟨-, rfl⟩ := h
      have h2 : i = m := by omega
      subst h2
      rw [Nat.sub_self]
      exact e_ap_0
theorem em_emits {a1 : Int64} {a2 : Int32} {m : Nat} (h : RX12_emits a1 a2 n sl SH FI FL FR v s) (hm : a2.toInt = m) (h8 : m ≤ 8) : e_ap FI s.2.2.2.1 (lc_by a1.toInt m) := by
  obtain ⟨g, h⟩ := h
  have q := em_emits_G hm h8 g 0 n sl SH FI FL FR v s 0 h (by decide) (by omega)
  simpa using q
theorem em_unsigned_G {a1 : Int64} : ∀ (g : Nat) (x : Int64) (n sl : Nat) (SH : Nat → Nat × Nat) (FI : Nat → Nat → Int32) (FL : Nat → Nat → Int64) (FR : Nat → Nat → Option Nat) (v : Unit) (s : hS) (k : Nat), GX12_unsigned_2 a1 g x n sl SH FI FL FR v s → k ≤ 9 → 0 ≤ x.toInt → x.toInt < p7 k → e_ap FI s.2.2.2.1 (lc_u (9 - k) x.toInt) := by
  intro g
  induction g with
  | zero => intro x n sl SH FI FL FR v s k h; exact h.elim
  | succ g ih =>
    intro x n sl SH FI FL FR v s k h hk h0 hp
    have e127 : ((127 : Int64)).toInt = 127 := by decide
    rcases h with ⟨h1, h⟩ | ⟨h1, h⟩
    · obtain ⟨v1, n1, sl1, SH1, FI1, FL1, FR1, hc, h⟩ := h
      rw [e127] at h1
      have hk9 : k < 9 := by
        rcases Nat.lt_or_ge k 9 with h | h
        · exact h
        · have := p7_9 hp (by omega)
          omega
      have hs := l_shr7 (x := x) rfl
      have q1 := em_emit (b := x.toInt % 128 + 128) hc (l_or128 x)
      have q2 := ih _ n1 sl1 SH1 FI1 FL1 FR1 v s (k + 1) h (by omega) (by rw [hs]; omega) (by rw [hs]; exact p7_s hp (by omega) (by omega))
      rw [hs] at q2
      refine e_ap_cg (e_ap_tr q1 q2) ?_
      rw [show 9 - k = (9 - (k + 1)) + 1 by omega, lc_u, if_pos h1]
      rfl
    · obtain ⟨v1, n1, sl1, SH1, FI1, FL1, FR1, hc, h⟩ := h
      obtain ⟨-, rfl⟩ := h
      rw [e127] at h1
      have q1 := em_emit (b := x.toInt) hc (by rw [l_i_m256]; omega)
      refine e_ap_cg q1 ?_
      cases h9 : 9 - k with
      | zero => rfl
      | succ z => rw [lc_u, if_neg h1]
theorem em_unsigned {a1 : Int64} (h : RX12_unsigned a1 n sl SH FI FL FR v s) (h0 : 0 ≤ a1.toInt) : e_ap FI s.2.2.2.1 (lc_u 9 a1.toInt) := by
  obtain ⟨g, h⟩ := h
  exact em_unsigned_G g a1 n sl SH FI FL FR v s 0 h (by omega) h0 (p7_0 (l_rng a1).2)
theorem em_signed_G {a1 : Int64} : ∀ (g : Nat) (x : Int64) (n sl : Nat) (SH : Nat → Nat × Nat) (FI : Nat → Nat → Int32) (FL : Nat → Nat → Int64) (FR : Nat → Nat → Option Nat) (v : Unit) (s : hS) (k : Nat), GX12_signed_2 a1 g x n sl SH FI FL FR v s → k ≤ 9 → -p7 k ≤ x.toInt → x.toInt < p7 k → e_ap FI s.2.2.2.1 (lc_s (9 - k) x.toInt) := by
  intro g
  induction g with
  | zero => intro x n sl SH FI FL FR v s k h; exact h.elim
  | succ g ih =>
    intro x n sl SH FI FL FR v s k h hk hm hp
    have e63 : ((63 : Int64)).toInt = 63 := by decide
    have e64 : ((-64 : Int64)).toInt = -64 := by decide
    have key : (x.toInt < -64 ∨ 63 < x.toInt) → RX12_signed_18 (GX12_signed_2 a1 g) a1 x n sl SH FI FL FR v s → e_ap FI s.2.2.2.1 (lc_s (9 - k) x.toInt) := by
      intro h1 h
      obtain ⟨v1, n1, sl1, SH1, FI1, FL1, FR1, hc, h⟩ := h
      have hk9 : k < 9 := by
        rcases Nat.lt_or_ge k 9 with h | h
        · exact h
        · have := p7_9 hp (by omega)
          have := p7_m9 hm (by omega)
          omega
      have hs := l_shr7 (x := x) rfl
      have q1 := em_emit (b := x.toInt % 128 + 128) hc (l_or128 x)
      have q2 := ih _ n1 sl1 SH1 FI1 FL1 FR1 v s (k + 1) h (by omega) (by rw [hs]; exact p7_ms hm (by omega) (by omega)) (by rw [hs]; exact p7_s hp (by omega) (by omega))
      rw [hs] at q2
      refine e_ap_cg (e_ap_tr q1 q2) ?_
      rw [show 9 - k = (9 - (k + 1)) + 1 by omega, lc_s, if_pos h1]
      rfl
    rcases h with ⟨h1, h⟩ | ⟨h1, h⟩
    · exact key (Or.inl (by rw [e64] at h1; exact h1)) h
    · rcases h with ⟨h2, h⟩ | ⟨h2, h⟩
      · exact key (Or.inr (by rw [e63] at h2; exact h2)) h
      · obtain ⟨v1, n1, sl1, SH1, FI1, FL1, FR1, hc, h⟩ := h
        obtain ⟨-, rfl⟩ := h
        rw [e64] at h1
        rw [e63] at h2
        have q1 := em_emit (b := x.toInt % 128) hc (l_and127 x)
        refine e_ap_cg q1 ?_
        cases h9 : 9 - k with
        | zero => rfl
        | succ z => rw [lc_s, if_neg (by omega)]
theorem em_signed {a1 : Int64} (h : RX12_signed a1 n sl SH FI FL FR v s) : e_ap FI s.2.2.2.1 (lc_s 9 a1.toInt) := by
  obtain ⟨g, h⟩ := h
  exact em_signed_G g a1 n sl SH FI FL FR v s 0 h (by omega) (p7_m0 (l_rng a1).1) (p7_0 (l_rng a1).2)
theorem em_push {a1 : Int64} (h : RX12_push a1 n sl SH FI FL FR v s) (h0 : 0 ≤ a1.toInt) : e_ap FI s.2.2.2.1 (lc_c a1.toInt) := by
  have c1 : ((31 : Int64)).toInt = 31 := by decide
  have c2 : ((255 : Int64)).toInt = 255 := by decide
  have c3 : ((65535 : Int64)).toInt = 65535 := by decide
  have c4 : ((4294967295 : Int64)).toInt = 4294967295 := by decide
  unfold lc_c
  rcases h with ⟨h1, h⟩ | ⟨h1, h⟩
  · rw [c1] at h1
    rw [if_neg (by omega)]
    rcases h with ⟨h2, h⟩ | ⟨h2, h⟩
    · rw [c2] at h2
      rw [if_neg (by omega)]
      rcases h with ⟨h3, h⟩ | ⟨h3, h⟩
      · rw [c3] at h3
        rw [if_neg (by omega)]
        rcases h with ⟨h4, h⟩ | ⟨h4, h⟩
        · rw [c4] at h4
          rw [if_neg (by omega)]
          obtain ⟨v1, n1, sl1, SH1, FI1, FL1, FR1, hc, h⟩ := h
          obtain ⟨v2, n2, sl2, SH2, FI2, FL2, FR2, hd, h⟩ := h
          obtain ⟨-, rfl⟩ := h
          exact e_ap_tr (em_emit (b := 14) hc (by decide)) (em_emits (m := 8) hd (by decide) (by decide))
        · rw [c4] at h4
          rw [if_pos (by omega)]
          obtain ⟨v1, n1, sl1, SH1, FI1, FL1, FR1, hc, h⟩ := h
          obtain ⟨v2, n2, sl2, SH2, FI2, FL2, FR2, hd, h⟩ := h
          obtain ⟨-, rfl⟩ := h
          exact e_ap_tr (em_emit (b := 12) hc (by decide)) (em_emits (m := 4) hd (by decide) (by decide))
      · rw [c3] at h3
        rw [if_pos (by omega)]
        obtain ⟨v1, n1, sl1, SH1, FI1, FL1, FR1, hc, h⟩ := h
        obtain ⟨v2, n2, sl2, SH2, FI2, FL2, FR2, hd, h⟩ := h
        obtain ⟨-, rfl⟩ := h
        exact e_ap_tr (em_emit (b := 10) hc (by decide)) (em_emits (m := 2) hd (by decide) (by decide))
    · rw [c2] at h2
      rw [if_pos (by omega)]
      obtain ⟨v1, n1, sl1, SH1, FI1, FL1, FR1, hc, h⟩ := h
      obtain ⟨v2, n2, sl2, SH2, FI2, FL2, FR2, hd, h⟩ := h
      obtain ⟨-, rfl⟩ := h
      exact e_ap_tr (em_emit (b := 8) hc (by decide)) (em_emits (m := 1) hd (by decide) (by decide))
  · rw [c1] at h1
    rw [if_pos (by omega)]
    obtain ⟨v1, n1, sl1, SH1, FI1, FL1, FR1, hc, h⟩ := h
    obtain ⟨-, rfl⟩ := h
    refine em_emit hc ?_
    rw [i_add (by decide : ((48 : Int32)).toInt = 48) (l_2i rfl (by omega) (by omega)) (by omega) (by omega)]
    omega
end EM
end
section
/-! THE REFERENCE'S OPERATOR STACK in the cells, as f_run has it. -/
def k_no (m : k_M) (c : Nat) : Bool := m.1.all (fun e => !(e.1 == c)) && !m.2.1.contains c
theorem k_no_in {m : k_M} {c : Nat} (h : k_no m c = true) (k : Nat) : k_in m.1 m.2.1 c k = false := by
  unfold k_no at h
  rw [Bool.and_eq_true] at h
  unfold k_in
  rw [Bool.or_eq_false_iff]
  refine ⟨?_, by simpa using h.2⟩
  cases e : m.1.contains (c, k) with
  | false => rfl
  | true =>
    have h3 := List.all_eq_true.mp h.1 _ (List.contains_iff_mem.mp e)
    simp at h3
theorem kq_cell {m : k_M} {a b : hS} {c : Nat} (h : kq m a b) (hc : k_no m c = true) : b.2.2.2.1 c = a.2.2.2.1 c := funext (fun k => h.2.2.2.2.1 c k (k_no_in hc k))
theorem kq_fld {m : k_M} {a b : hS} {c k : Nat} (h : kq m a b) (hc : k_in m.1 m.2.1 c k = false) : b.2.2.2.1 c k = a.2.2.2.1 c k := h.2.2.2.2.1 c k hc
theorem kq_fl {m : k_M} {a b : hS} {c : Nat} (h : kq m a b) (hc : k_no (m.2.2.1, m.2.2.2, [], []) c = true) : b.2.2.2.2.1 c = a.2.2.2.2.1 c := funext (fun k => h.2.2.2.2.2.1 c k (k_no_in hc k))
def w_by (c : Int) : List Int := if c < 256 then [c] else [148, c - 256]
def w_vw (FI : Nat → Nat → Int32) : List f_E → Prop
  | [] => True
  | e :: S => ((FI 166 S.length).toInt = e.1 ∧ (1 ≤ e.1 → e.2.1 = w_by (FI 165 S.length).toInt ∧ 0 ≤ (FI 165 S.length).toInt ∧ (FI 165 S.length).toInt < 512 ∧ (e.1 ≠ 9 → (FI 165 S.length).toInt < 256)) ∧ ((e.1 = -2 ∨ e.1 = -3) → FI 167 S.length = Int32.ofNat e.2.2.1) ∧ (e.1 = -3 → FI 168 S.length = Int32.ofNat e.2.2.2)) ∧ w_vw FI S
theorem w_vw_cg {F F2 : Nat → Nat → Int32} : ∀ {S : List f_E}, w_vw F S → (∀ c i, 165 ≤ c → c ≤ 168 → i < S.length → F2 c i = F c i) → w_vw F2 S
  | [], _, _ => trivial
  | e :: S, h, hc => by
    refine ⟨?_, w_vw_cg h.2 (fun c i h1 h2 h3 => hc c i h1 h2 (by simp only [List.length_cons]; omega))⟩
    rw [hc 166 S.length (by decide) (by decide) (by simp), hc 165 S.length (by decide) (by decide) (by simp), hc 167 S.length (by decide) (by decide) (by simp), hc 168 S.length (by decide) (by decide) (by simp)]
    exact h.1
def f_ok : List f_E → Prop
  | [] => True
  | e :: S => (e.1 ≠ 9 → e.1 ≠ -1 → f_top S ≠ 9) ∧ f_ok S
def f_op : List f_E → Int
  | [] => 0
  | e :: S => (if 1 ≤ e.1 ∧ e.1 ≤ 7 then 0 else 1) + f_op S
theorem f_op_0 : ∀ (S : List f_E), 0 ≤ f_op S
  | [] => Int.le_refl 0
  | e :: S => by
    have := f_op_0 S
    rw [f_op]
    split <;> omega
def f_el (S : List f_E) : Prop := ∀ e, e ∈ S → e.1 = 9 ∨ e.1 = -1 ∨ e.1 = -2 ∨ e.1 = -3 ∨ (1 ≤ e.1 ∧ e.1 ≤ 7)
def f_pl (S : List f_E) (L : Nat) : Prop := ∀ e, e ∈ S → (e.1 = -2 → e.2.2.1 + 2 ≤ L) ∧ (e.1 = -3 → e.2.2.1 + 2 ≤ e.2.2.2 ∧ e.2.2.2 ≤ L)
theorem f_pl_le {S : List f_E} {L M : Nat} (h : f_pl S L) (h2 : L ≤ M) : f_pl S M := fun e he => ⟨fun h3 => by have := (h e he).1 h3; omega, fun h3 => by have := (h e he).2 h3; omega⟩
def r_vw (FI : Nat → Nat → Int32) (S : List f_E) (B : List Int) : Prop := FI 121 90 = Int32.ofNat S.length ∧ S.length ≤ 256 ∧ w_vw FI S ∧ f_ok S ∧ f_el S ∧ f_pl S B.length ∧ e_vw FI B
theorem r_vw_n {FI : Nat → Nat → Int32} {S : List f_E} {B : List Int} (h : r_vw FI S B) : (FI 121 90).toInt = S.length := by
  have := h.2.1
  rw [h.1, i_lit (by omega)]
theorem r_em {m : k_M} {a b : hS} {S : List f_E} {B c : List Int} (h : r_vw a.2.2.2.1 S B) (hk : kq m a b) (he : e_ap a.2.2.2.1 b.2.2.2.1 c) (h1 : k_in m.1 m.2.1 121 90 = false) (h2 : (k_no m 165 && k_no m 166 && k_no m 167 && k_no m 168) = true) : r_vw b.2.2.2.1 S (B ++ c) := by
  rw [Bool.and_eq_true, Bool.and_eq_true, Bool.and_eq_true] at h2
  refine ⟨by rw [kq_fld hk h1]; exact h.1, h.2.1, w_vw_cg h.2.2.1 (fun c i h3 h4 h5 => ?_), h.2.2.2.1, h.2.2.2.2.1, f_pl_le h.2.2.2.2.2.1 (by simp), he B h.2.2.2.2.2.2⟩
  have : c = 165 ∨ c = 166 ∨ c = 167 ∨ c = 168 := by omega
  rcases this with e | e | e | e
  · subst e; rw [kq_cell hk h2.1.1.1]
  · subst e; rw [kq_cell hk h2.1.1.2]
  · subst e; rw [kq_cell hk h2.1.2]
  · subst e; rw [kq_cell hk h2.2]
theorem r_fl {FI : Nat → Nat → Int32} {S : List f_E} {B : List Int} {k : Nat} {x : Int32} (h : r_vw FI S B) (h1 : k ≠ 73) (h2 : k ≠ 90) : r_vw (h_up FI 121 k x) S B :=
  ⟨by rw [h_up_x (by rintro ⟨-, e⟩; exact h2 e.symm)]; exact h.1, h.2.1, w_vw_cg h.2.2.1 (fun c i h3 h4 h5 => by rw [h_up_x (by omega)]), h.2.2.2.1, h.2.2.2.2.1, h.2.2.2.2.2.1, e_vw_f h.2.2.2.2.2.2 h1⟩
theorem r_pop {FI : Nat → Nat → Int32} {e : f_E} {S : List f_E} {B : List Int} (h : r_vw FI (e :: S) B) : r_vw (h_up FI 121 90 (FI 121 90 - 1)) S B := by
  have hl := h.2.1
  rw [List.length_cons] at hl
  refine ⟨?_, by omega, w_vw_cg h.2.2.1.2 (fun c i h3 h4 h5 => by rw [h_up_x (by omega)]), h.2.2.2.1.2, fun x hx => h.2.2.2.2.1 x (List.mem_cons_of_mem _ hx), fun x hx => h.2.2.2.2.2.1 x (List.mem_cons_of_mem _ hx), e_vw_f h.2.2.2.2.2.2 (by decide)⟩
  rw [h_up_eq]
  refine i_eqv ?_
  have hn := r_vw_n h
  rw [List.length_cons] at hn
  rw [i_sub hn (by decide : ((1 : Int32)).toInt = 1) (by omega) (by omega), i_lit (by omega)]
  omega
theorem r_ix {FI : Nat → Nat → Int32} {e : f_E} {S : List f_E} {B : List Int} (h : r_vw FI (e :: S) B) : (FI 121 90 - 1).toInt.toNat = S.length := by
  have hl := h.2.1
  have hn := r_vw_n h
  rw [List.length_cons] at hn hl
  rw [i_sub hn (by decide : ((1 : Int32)).toInt = 1) (by omega) (by omega)]
  omega
theorem r_tops {SH : Nat → Nat × Nat} {FI : Nat → Nat → Int32} {FL : Nat → Nat → Int64} {FR : Nat → Nat → Option Nat} {S : List f_E} {B : List Int} (h : r_vw FI S B) : (fX12_tops SH FI FL FR).toInt = f_top S := by
  unfold fX12_tops
  have hn := r_vw_n h
  cases S with
  | nil => rw [if_pos (by rw [hn]; rfl)]; decide
  | cons e S =>
    rw [List.length_cons] at hn
    rw [if_neg (by rw [hn]; omega), show FI 166 ((FI 121 90) - ((1 : Int32))).toInt.toNat = FI 166 S.length by rw [r_ix h]]
    exact h.2.2.1.1.1
theorem r_push {FI : Nat → Nat → Int32} {S : List f_E} {B : List Int} {c b : Int32} {p q : Nat} {y : List Int} (h : r_vw FI S B) (hl : S.length < 256) (hb : b.toInt = 9 ∨ b.toInt = -1 ∨ (1 ≤ b.toInt ∧ b.toInt ≤ 7 ∧ f_top S ≠ 9)) (hy : 1 ≤ b.toInt → y = w_by c.toInt ∧ 0 ≤ c.toInt ∧ c.toInt < 512 ∧ (b.toInt ≠ 9 → c.toInt < 256)) : r_vw (h_up (h_up (h_up FI 165 (FI 121 90).toInt.toNat c) 166 (FI 121 90).toInt.toNat b) 121 90 (FI 121 90 + 1)) ((b.toInt, y, p, q) :: S) B := by
  have hn := r_vw_n h
  have hi : (FI 121 90).toInt.toNat = S.length := by omega
  rw [hi]
  refine ⟨?_, by rw [List.length_cons]; omega, ⟨⟨?_, ?_, ?_, ?_⟩, ?_⟩, ⟨?_, h.2.2.2.1⟩, ?_, ?_, e_vw_f (e_vw_c (e_vw_c h.2.2.2.2.2.2 (by decide) (by decide)) (by decide) (by decide)) (by decide)⟩
  · rw [h_up_eq, h.1, List.length_cons]
    exact (Int32.ofNat_add _ _).symm
  · rw [h_up_x (by omega), h_up_eq]
  · intro h1
    rw [h_up_x (by omega), h_up_x (by omega), h_up_eq]
    exact hy h1
  · intro h1
    exfalso
    have h2 : b.toInt = -2 ∨ b.toInt = -3 := h1
    omega
  · intro h1
    exfalso
    have h2 : b.toInt = -3 := h1
    omega
  · exact w_vw_cg h.2.2.1 (fun c i h3 h4 h5 => by rw [h_up_x (by omega), h_up_x (by omega), h_up_x (by omega)])
  · intro h1 h2
    have h3 : b.toInt ≠ 9 := h1
    have h4 : b.toInt ≠ -1 := h2
    rcases hb with hb | hb | hb
    · omega
    · omega
    · exact hb.2.2
  · intro e he
    rcases List.mem_cons.mp he with rfl | he
    · show b.toInt = 9 ∨ b.toInt = -1 ∨ b.toInt = -2 ∨ b.toInt = -3 ∨ (1 ≤ b.toInt ∧ b.toInt ≤ 7)
      omega
    · exact h.2.2.2.2.1 e he
  · intro e he
    rcases List.mem_cons.mp he with rfl | he
    · refine ⟨fun h1 => ?_, fun h1 => ?_⟩
      · have h2 : b.toInt = -2 := h1
        omega
      · have h2 : b.toInt = -3 := h1
        omega
    · exact h.2.2.2.2.2.1 e he
section RS
variable {n sl : Nat} {SH : Nat → Nat × Nat} {FI : Nat → Nat → Int32} {FL : Nat → Nat → Int64} {FR : Nat → Nat → Option Nat} {v : Unit} {s : hS}
theorem em_emitted {a : Int32} (h : RX12_emitted a n sl SH FI FL FR v s) (h0 : 0 ≤ a.toInt) (h1 : a.toInt < 512) : e_ap FI s.2.2.2.1 (w_by a.toInt) := by
  have e256 : ((256 : Int32)).toInt = 256 := by decide
  unfold w_by
  rcases h with ⟨h2, h⟩ | ⟨h2, h⟩
  · obtain ⟨v1, n1, sl1, SH1, FI1, FL1, FR1, hc, h⟩ := h
    obtain ⟨-, rfl⟩ := h
    rw [e256] at h2
    rw [if_pos h2]
    exact em_emit hc (by omega)
  · obtain ⟨v1, n1, sl1, SH1, FI1, FL1, FR1, hc, h⟩ := h
    obtain ⟨v2, n2, sl2, SH2, FI2, FL2, FR2, hd, h⟩ := h
    obtain ⟨-, rfl⟩ := h
    rw [e256] at h2
    rw [if_neg h2]
    exact e_ap_tr (em_emit (b := 148) hc (by decide)) (em_emit (b := a.toInt - 256) hd (by rw [i_sub rfl e256 (by omega) (by omega)]; omega))
/-- the opened ones, counted -/
def o_vw (FI : Nat → Nat → Int32) (o0 : Int) (S : List f_E) (o : Int) : Prop := (FI 121 71).toInt = o ∧ o = o0 + f_op S ∧ 0 ≤ o0 ∧ o ≤ 12
theorem o_pop {FI : Nat → Nat → Int32} {o0 o : Int} {e : f_E} {S : List f_E} (h : o_vw FI o0 (e :: S) o) (h1 : ¬ (1 ≤ e.1 ∧ e.1 ≤ 7)) : (FI 121 71 - 1).toInt = o - 1 ∧ o - 1 = o0 + f_op S ∧ 0 ≤ o0 ∧ o - 1 ≤ 12 := by
  obtain ⟨h2, h3, h4, h5⟩ := h
  rw [f_op, if_neg h1] at h3
  have := f_op_0 S
  refine ⟨?_, by omega, h4, by omega⟩
  rw [i_sub h2 (by decide : ((1 : Int32)).toInt = 1) (by omega) (by omega)]
theorem rs_finished : ∀ (g n sl : Nat) (SH : Nat → Nat × Nat) (FI : Nat → Nat → Int32) (FL : Nat → Nat → Int64) (FR : Nat → Nat → Option Nat) (v : Unit) (s : hS) (S : List f_E) (o0 o : Int) (B : List Int), GX12_finished_0 g n sl SH FI FL FR v s → r_vw FI S B → o_vw FI o0 S o → r_vw s.2.2.2.1 (f_fin S o B).1 (f_fin S o B).2.2 ∧ o_vw s.2.2.2.1 o0 (f_fin S o B).1 (f_fin S o B).2.1 ∧ f_top (f_fin S o B).1 ≠ 9 := by
  intro g
  induction g with
  | zero => intro n sl SH FI FL FR v s S o0 o B h; exact h.elim
  | succ g ih =>
    intro n sl SH FI FL FR v s S o0 o B h hr ho
    have ht := r_tops (SH := SH) (FL := FL) (FR := FR) hr
    have e9 : ((9 : Int32)).toInt = 9 := by decide
    rcases h with ⟨h1, h⟩ | ⟨h1, h⟩
    · obtain ⟨hp, h⟩ := h
      obtain ⟨v1, n1, sl1, SH1, FI1, FL1, FR1, hc, h⟩ := h
      rw [ht, e9] at h1
      cases S with
      | nil => exact absurd h1 (by decide)
      | cons e S =>
        have h9 : e.1 = 9 := h1
        have hw := (hr.2.2.1.1.2.1 (by omega))
        have hix := r_ix hr
        have hr1 := r_fl (k := 71) (x := FI 121 71 - 1) (r_pop hr) (by decide) (by decide)
        have ho1 := o_pop ho (by omega)
        have hk := kX12_emitted hc
        have hcc : (FI 165 ((FI 121 90) - ((1 : Int32))).toInt.toNat) = FI 165 S.length := by rw [hix]
        have he := em_emitted hc (by rw [hcc]; exact hw.2.1) (by rw [hcc]; exact hw.2.2.1)
        rw [hcc, ← hw.1] at he
        have hr2 := r_em (a := (n, sl, SH, _, FL, FR)) hr1 hk he (by decide) (by decide)
        have ho2 : o_vw FI1 o0 S (o - 1) := by
          refine ⟨?_, ho1.2⟩
          rw [show FI1 121 71 = _ from kq_fld hk (by decide)]
          try dsimp only
          rw [h_up_eq]
          exact ho1.1
        have eF : f_fin (e :: S) o B = f_fin S (o - 1) (B ++ e.2.1) := by simp only [f_fin, if_pos h9]
        rw [eF]
        exact ih n1 sl1 SH1 FI1 FL1 FR1 v s S o0 (o - 1) (B ++ e.2.1) h hr2 ho2
    · obtain ⟨-, rfl⟩ := h
      rw [ht, e9] at h1
      rw [f_fin_stop h1]
      exact ⟨hr, ho, h1⟩
theorem rs_reduced {b : Int32} (hb : 1 ≤ b.toInt) : ∀ (g n sl : Nat) (SH : Nat → Nat × Nat) (FI : Nat → Nat → Int32) (FL : Nat → Nat → Int64) (FR : Nat → Nat → Option Nat) (v : Unit) (s : hS) (S : List f_E) (o0 o : Int) (B : List Int), GX12_reduced_0 b g n sl SH FI FL FR v s → r_vw FI S B → o_vw FI o0 S o → f_top S ≠ 9 → r_vw s.2.2.2.1 (f_pop b.toInt S B).1 (f_pop b.toInt S B).2 ∧ o_vw s.2.2.2.1 o0 (f_pop b.toInt S B).1 o ∧ f_top (f_pop b.toInt S B).1 ≠ 9 ∧ f_top (f_pop b.toInt S B).1 < b.toInt := by
  intro g
  induction g with
  | zero => intro n sl SH FI FL FR v s S o0 o B h; exact h.elim
  | succ g ih =>
    intro n sl SH FI FL FR v s S o0 o B h hr ho h9
    have ht := r_tops (SH := SH) (FL := FL) (FR := FR) hr
    rcases h with ⟨h1, h⟩ | ⟨h1, h⟩
    · obtain ⟨-, rfl⟩ := h
      rw [ht] at h1
      rw [f_pop_stop h1]
      exact ⟨hr, ho, h9, h1⟩
    · obtain ⟨hp, h⟩ := h
      obtain ⟨v1, n1, sl1, SH1, FI1, FL1, FR1, hc, h⟩ := h
      rw [ht] at h1
      cases S with
      | nil => exact absurd (show b.toInt ≤ -11 by have : f_top [] = -11 := rfl; omega) (by omega)
      | cons e S =>
        have h2 : f_top (e :: S) = e.1 := rfl
        have hel := hr.2.2.2.2.1 e (by simp)
        have hw := (hr.2.2.1.1.2.1 (by omega))
        have hix := r_ix hr
        have hr1 := r_pop hr
        have hk := kX12_emit hc
        have hcc : (FI 165 ((FI 121 90) - ((1 : Int32))).toInt.toNat) = FI 165 S.length := by rw [hix]
        have h256 := hw.2.2.2 (by omega)
        have he := em_emit (b := (FI 165 S.length).toInt) hc (by rw [hcc]; have := hw.2.1; omega)
        have hwb : [(FI 165 S.length).toInt] = e.2.1 := by rw [hw.1, w_by, if_pos h256]
        rw [hwb] at he
        have hr2 := r_em (a := (n, sl, SH, _, FL, FR)) hr1 hk he (by decide) (by decide)
        have ho2 : o_vw FI1 o0 S o := by
          obtain ⟨o1, o2, o3, o4⟩ := ho
          rw [f_op, if_pos (by omega)] at o2
          refine ⟨?_, by omega, o3, o4⟩
          rw [show FI1 121 71 = _ from kq_fld hk (by decide)]
          try dsimp only
          rw [h_up_x (by decide)]
          exact o1
        have e3 : f_pop b.toInt (e :: S) B = f_pop b.toInt S (B ++ e.2.1) := by simp only [f_pop, if_pos (show b.toInt ≤ e.1 by omega)]
        rw [e3]
        exact ih n1 sl1 SH1 FI1 FL1 FR1 v s S o0 o (B ++ e.2.1) h hr2 ho2 (hr.2.2.2.1.1 (by omega) (by omega))
end RS
end
section
/-! A CHOICE's parts change places: turned. -/
theorem f_turn_len {a m : Nat} {B : List Int} (h1 : a + 2 ≤ m) (h2 : m ≤ B.length) : (f_turn a m B).length = B.length + 3 := by
  unfold f_turn
  simp only [List.length_append, List.length_cons, List.length_take, List.length_drop, lc_by, List.length_nil]
  omega
theorem f_turn_get {a m : Nat} {B : List Int} (h1 : a + 2 ≤ m) (h2 : m ≤ B.length) (i : Nat) (hi : i < B.length + 3) : (f_turn a m B).getD i 0 =
    if i < a then B.getD i 0 else if i = a then ((B.length - m : Nat) + 3 : Int) % 256 else if i = a + 1 then ((B.length - m : Nat) + 3 : Int) / 256 % 256 else
    if i < a + 2 + (B.length - m) then B.getD (m + (i - (a + 2))) 0 else if i = a + 2 + (B.length - m) then 47 else if i = a + 2 + (B.length - m) + 1 then ((m - a - 2 : Nat) : Int) % 256 else if i = a + 2 + (B.length - m) + 2 then ((m - a - 2 : Nat) : Int) / 256 % 256 else
    B.getD (a + 2 + (i - (a + 2 + (B.length - m) + 3))) 0 := by
  have e1 : (B.take a).length = a := by rw [List.length_take]; omega
  have e2 : (B.drop m).length = B.length - m := by rw [List.length_drop]
  unfold f_turn
  simp only [List.getD_eq_getElem?_getD]
  by_cases c1 : i < a
  · rw [if_pos c1, List.getElem?_append_left (by omega), List.getElem?_take_of_lt c1]
  · rw [if_neg c1, List.getElem?_append_right (by omega), e1]
    by_cases c2 : i = a
    · rw [if_pos c2, c2, Nat.sub_self]
      simp [lc_by]
    · rw [if_neg c2]
      by_cases c3 : i = a + 1
      · rw [if_pos c3, c3, show a + 1 - a = 1 by omega]
        simp [lc_by]
      · rw [if_neg c3, List.getElem?_append_right (by simp [lc_by]; omega), show (lc_by (((B.length - m : Nat) : Int) + 3) 2).length = 2 from rfl]
        by_cases c4 : i < a + 2 + (B.length - m)
        · rw [if_pos c4, List.getElem?_append_left (by omega), List.getElem?_drop, show m + (i - a - 2) = m + (i - (a + 2)) by omega]
        · rw [if_neg c4, List.getElem?_append_right (by omega), e2]
          by_cases c5 : i = a + 2 + (B.length - m)
          · rw [if_pos c5, show i - a - 2 - (B.length - m) = 0 by omega]
            simp
          · rw [if_neg c5, show i - a - 2 - (B.length - m) = (i - (a + 2 + (B.length - m) + 1)) + 1 by omega, List.getElem?_cons_succ]
            by_cases c6 : i = a + 2 + (B.length - m) + 1
            · rw [if_pos c6, show i - (a + 2 + (B.length - m) + 1) = 0 by omega]
              simp [lc_by]
            · rw [if_neg c6]
              by_cases c7 : i = a + 2 + (B.length - m) + 2
              · rw [if_pos c7, show i - (a + 2 + (B.length - m) + 1) = 1 by omega]
                simp [lc_by]
              · rw [if_neg c7, List.getElem?_append_right (by simp [lc_by]; omega), show (lc_by ((m - a - 2 : Nat) : Int) 2).length = 2 from rfl, List.getElem?_take_of_lt (by omega), List.getElem?_drop, show a + 2 + (i - (a + 2 + (B.length - m) + 1) - 2) = a + 2 + (i - (a + 2 + (B.length - m) + 3)) by omega]
theorem i_sh8 {x : Int32} {A : Int} (hx : x.toInt = A) : (x >>> ((8 : Int32) &&& 31)).toInt = A / 256 := by
  have e : ((8 : Int32) &&& 31) = (8 : Int32) := by decide
  rw [e]
  have e2 : (x >>> (8 : Int32)).toBitVec = x.toBitVec.sshiftRight 8 := by
    rw [Int32.toBitVec_shiftRight]; rfl
  show (x >>> (8 : Int32)).toBitVec.toInt = _
  rw [e2, BitVec.toInt_sshiftRight, Int.shiftRight_eq_div_pow, ← hx]; rfl
section TU
theorem tu_74 {a m f g : Nat} {l1 l2 l3 l4 : Int32} (ha : l1.toInt = a) (hm : l2.toInt = m) (hf : l3.toInt = f) (hg : l4.toInt = g) (hb : a ≤ 5000) (hbf : f ≤ 5000) : ∀ (u : Nat) (l5 : Int32) (n sl : Nat) (SH : Nat → Nat × Nat) (FI : Nat → Nat → Int32) (FL : Nat → Nat → Int64) (FR : Nat → Nat → Option Nat) (v : Unit) (s : hS) (k : Nat), GX12_turned_74 u l1 l2 l3 l4 l5 n sl SH FI FL FR v s → l5.toInt = k → k ≤ f → ∃ FI2, RX12_turned_107 l1 l2 l3 l4 0 n sl SH FI2 FL FR v s ∧ FI2 154 = FI 154 ∧ (∀ j, k ≤ j → j < f → FI2 164 j = FI 154 (a + 2 + j)) ∧ (∀ j, j < k → FI2 164 j = FI 164 j) := by
  intro u
  induction u with
  | zero => intro l5 n sl SH FI FL FR v s k h; exact h.elim
  | succ u ih =>
    intro l5 n sl SH FI FL FR v s k h hl hk
    rcases h with ⟨h1, h⟩ | ⟨h1, h⟩
    · replace h := h.2.2
      have hk1 : (l5 + 1).toInt = ((k + 1 : Nat) : Int) := by
        rw [i_add hl (by decide : ((1 : Int32)).toInt = 1) (by omega) (by omega)]; omega
      have e1 : ((l1) + ((2 : Int32))).toInt = a + 2 := i_add ha (by decide : ((2 : Int32)).toInt = 2) (by omega) (by omega)
      have e2 : (((l1) + ((2 : Int32))) + l5).toInt.toNat = a + 2 + k := by
        rw [i_add e1 hl (by omega) (by omega)]; omega
      have e3 : l5.toInt.toNat = k := by omega
      obtain ⟨F2, q1, q2, q3, q4⟩ := ih (l5 + 1) n sl SH _ FL FR v s (k + 1) h hk1 (by omega)
      refine ⟨F2, q1, ?_, fun j h2 h3 => ?_, fun j h2 => ?_⟩
      · rw [q2, h_up_nc (by decide)]
      · by_cases hj : j = k
        · subst hj
          rw [q4 j (by omega), e3, h_up_eq, e2]
        · rw [q3 j (by omega) h3, h_up_nc (by decide)]
      · rw [q4 j (by omega), e3, h_up_ne (by omega)]
    · refine ⟨FI, h, rfl, fun j h2 h3 => ?_, fun j _ => rfl⟩
      exfalso; omega
theorem tu_107 {a m f g : Nat} {l1 l2 l3 l4 : Int32} (ha : l1.toInt = a) (hm : l2.toInt = m) (hf : l3.toInt = f) (hg : l4.toInt = g) (hb : a ≤ 5000) (hbm : m ≤ 5000) (hbg : g ≤ 5000) (ham : a + 2 ≤ m) : ∀ (u : Nat) (l5 : Int32) (n sl : Nat) (SH : Nat → Nat × Nat) (FI : Nat → Nat → Int32) (FL : Nat → Nat → Int64) (FR : Nat → Nat → Option Nat) (v : Unit) (s : hS) (k : Nat), GX12_turned_107 u l1 l2 l3 l4 l5 n sl SH FI FL FR v s → l5.toInt = k → k ≤ g → ∃ FI2, RX12_turned_191 l1 l3 l4 ((l1 + (2 : Int32)) + l4) 0 n sl SH (h_up (h_up (h_up FI2 154 (a + 2 + g) (47 : Int32)) 154 (a + 2 + g + 1) (l3 &&& (255 : Int32))) 154 (a + 2 + g + 2) ((l3 >>> ((8 : Int32) &&& 31)) &&& (255 : Int32))) FL FR v s ∧ FI2 164 = FI 164 ∧ (∀ j, k ≤ j → j < g → FI2 154 (a + 2 + j) = FI 154 (m + j)) ∧ (∀ i, (i < a + 2 + k ∨ a + 2 + g ≤ i) → FI2 154 i = FI 154 i) := by
  intro u
  induction u with
  | zero => intro l5 n sl SH FI FL FR v s k h; exact h.elim
  | succ u ih =>
    intro l5 n sl SH FI FL FR v s k h hl hk
    have e1 : ((l1) + ((2 : Int32))).toInt = a + 2 := i_add ha (by decide : ((2 : Int32)).toInt = 2) (by omega) (by omega)
    rcases h with ⟨h1, h⟩ | ⟨h1, h⟩
    · replace h := h.2.2
      have hk1 : (l5 + 1).toInt = ((k + 1 : Nat) : Int) := by
        rw [i_add hl (by decide : ((1 : Int32)).toInt = 1) (by omega) (by omega)]; omega
      have e2 : (((l1) + ((2 : Int32))) + l5).toInt.toNat = a + 2 + k := by
        rw [i_add e1 hl (by omega) (by omega)]; omega
      have e3 : (l2 + l5).toInt.toNat = m + k := by
        rw [i_add hm hl (by omega) (by omega)]; omega
      obtain ⟨F2, q1, q2, q3, q4⟩ := ih (l5 + 1) n sl SH _ FL FR v s (k + 1) h hk1 (by omega)
      refine ⟨F2, q1, ?_, fun j h2 h3 => ?_, fun i h2 => ?_⟩
      · rw [q2, h_up_nc (by decide)]
      · by_cases hj : j = k
        · subst hj
          rw [q4 _ (Or.inl (by omega)), e2, h_up_eq, e3]
        · rw [q3 j (by omega) h3, e2, h_up_ne (by omega)]
      · rw [q4 i (by omega), e2, h_up_ne (by omega)]
    · replace h := h.2.2.2
      have e2 : (((l1) + ((2 : Int32))) + l4).toInt = a + 2 + g := i_add e1 hg (by omega) (by omega)
      have e3 : ((((l1) + ((2 : Int32))) + l4) + ((1 : Int32))).toInt = a + 2 + g + 1 := i_add e2 (by decide : ((1 : Int32)).toInt = 1) (by omega) (by omega)
      have e4 : ((((l1) + ((2 : Int32))) + l4) + ((2 : Int32))).toInt = a + 2 + g + 2 := i_add e2 (by decide : ((2 : Int32)).toInt = 2) (by omega) (by omega)
      rw [e2, e3, e4, show ((a : Int) + 2 + g).toNat = a + 2 + g by omega, show ((a : Int) + 2 + g + 1).toNat = a + 2 + g + 1 by omega, show ((a : Int) + 2 + g + 2).toNat = a + 2 + g + 2 by omega] at h
      refine ⟨FI, h, rfl, fun j h2 h3 => ?_, fun i _ => rfl⟩
      exfalso; omega
theorem tu_191 {a f g p : Nat} {l1 l3 l4 l5 : Int32} (ha : l1.toInt = a) (hf : l3.toInt = f) (hg : l4.toInt = g) (hp : l5.toInt = p) (hb : a ≤ 5000) (hbf : f ≤ 5000) (hbp : p ≤ 9000) (hap : a + 2 ≤ p) (hbg : g ≤ 5000) : ∀ (u : Nat) (l6 : Int32) (n sl : Nat) (SH : Nat → Nat × Nat) (FI : Nat → Nat → Int32) (FL : Nat → Nat → Int64) (FR : Nat → Nat → Option Nat) (v : Unit) (s : hS) (k : Nat), GX12_turned_191 u l1 l3 l4 l5 l6 n sl SH FI FL FR v s → l6.toInt = k → k ≤ f → (s.2.2.2.1 154 a).toInt = ((g : Int) + 3) % 256 ∧ (s.2.2.2.1 154 (a + 1)).toInt = ((g : Int) + 3) / 256 % 256 ∧ (∀ j, k ≤ j → j < f → s.2.2.2.1 154 (p + 3 + j) = FI 164 j) ∧ (∀ i, i ≠ a → i ≠ a + 1 → (i < p + 3 + k ∨ p + 3 + f ≤ i) → s.2.2.2.1 154 i = FI 154 i) := by
  intro u
  induction u with
  | zero => intro l6 n sl SH FI FL FR v s k h; exact h.elim
  | succ u ih =>
    intro l6 n sl SH FI FL FR v s k h hl hk
    rcases h with ⟨h1, h⟩ | ⟨h1, h⟩
    · replace h := h.2.2
      have hk1 : (l6 + 1).toInt = ((k + 1 : Nat) : Int) := by
        rw [i_add hl (by decide : ((1 : Int32)).toInt = 1) (by omega) (by omega)]; omega
      have e1 : (l5 + (3 : Int32)).toInt = p + 3 := i_add hp (by decide : ((3 : Int32)).toInt = 3) (by omega) (by omega)
      have e2 : ((l5 + (3 : Int32)) + l6).toInt.toNat = p + 3 + k := by
        rw [i_add e1 hl (by omega) (by omega)]; omega
      have e3 : l6.toInt.toNat = k := by omega
      obtain ⟨q1, q2, q3, q4⟩ := ih (l6 + 1) n sl SH _ FL FR v s (k + 1) h hk1 (by omega)
      refine ⟨q1, q2, fun j h2 h3 => ?_, fun i h2 h3 h4 => ?_⟩
      · by_cases hj : j = k
        · subst hj
          rw [q4 _ (by omega) (by omega) (Or.inl (by omega)), e2, h_up_eq, e3]
        · rw [q3 j (by omega) h3, h_up_nc (by decide)]
      · rw [q4 i h2 h3 (by omega), e2, h_up_ne (by omega)]
    · replace h := h.2.2
      obtain ⟨-, rfl⟩ := h
      have e1 : l1.toInt.toNat = a := by omega
      have e2 : (l1 + (1 : Int32)).toInt.toNat = a + 1 := by
        rw [i_add ha (by decide : ((1 : Int32)).toInt = 1) (by omega) (by omega)]; omega
      have e3 : (l4 + (3 : Int32)).toInt = g + 3 := i_add hg (by decide : ((3 : Int32)).toInt = 3) (by omega) (by omega)
      refine ⟨?_, ?_, fun j h2 h3 => ?_, fun i h2 h3 h4 => ?_⟩
      · try dsimp only
        rw [e1, e2, h_up_ne (by omega), h_up_eq, i_m255, e3]
      · try dsimp only
        rw [e1, e2, h_up_eq, i_m255, i_sh8 e3]
      · exfalso; omega
      · try dsimp only
        rw [e1, e2, h_up_ne h3, h_up_ne h2]
end TU
end
section
/-! turned, reducedAll: the stack and the bytes behind them. -/
theorem e_vw_ln {F : Nat → Nat → Int32} {B B2 : List Int} (h : e_vw F B) (h1 : B2.length = B.length) (h2 : 4000 < B.length) : e_vw F B2 := ⟨by rw [h1]; exact h.1, fun h3 => by omega⟩
section TA
variable {n sl : Nat} {SH : Nat → Nat × Nat} {FI : Nat → Nat → Int32} {FL : Nat → Nat → Int64} {FR : Nat → Nat → Option Nat} {v : Unit} {s : hS}
theorem rs_turned {e : f_E} {S : List f_E} {o0 o : Int} {B : List Int} (h : RX12_turned n sl SH FI FL FR v s) (hr : r_vw FI (e :: S) B) (ho : o_vw FI o0 (e :: S) o) (h3 : e.1 = -3) : r_vw s.2.2.2.1 S (f_turn e.2.2.1 e.2.2.2 B) ∧ o_vw s.2.2.2.1 o0 S (o - 1) ∧ f_top S ≠ 9 := by
  obtain ⟨-, -, v2, n2, sl2, SH2, FI2, FL2, FR2, hc, h⟩ := h
  have hr1 := r_fl (k := 71) (x := FI 121 71 - 1) (r_pop hr) (by decide) (by decide)
  have ho1 := o_pop ho (by omega)
  have hk := kX12_emits hc
  have he := em_emits (m := 3) hc (by decide) (by decide)
  have e03 : lc_by ((0 : Int64)).toInt 3 = [0, 0, 0] := by decide
  rw [e03] at he
  have hr2 := r_em (a := (n, sl, SH, _, FL, FR)) hr1 hk he (by decide) (by decide)
  have ho2 : o_vw FI2 o0 S (o - 1) := by
    refine ⟨?_, ho1.2⟩
    rw [show FI2 121 71 = _ from kq_fld hk (by decide)]
    try dsimp only
    rw [h_up_eq]
    exact ho1.1
  have h9 : f_top S ≠ 9 := hr.2.2.2.1.1 (by omega) (by omega)
  have hpl := (hr.2.2.2.2.2.1 e (by simp)).2 h3
  have hix := r_ix hr
  have w1 := hr.2.2.1.1.2.2.1 (Or.inr h3)
  have w2 := hr.2.2.1.1.2.2.2 h3
  have hB := hr.2.2.2.2.2.2
  have hl2 : (B ++ [0, 0, 0]).length = B.length + 3 := by simp
  have hB2 : e_vw FI2 (B ++ [0, 0, 0]) := hr2.2.2.2.2.2.2
  have hlen := f_turn_len hpl.1 hpl.2
  have fin : ∀ F : Nat → Nat → Int32, (∀ c k, c ≠ 154 → c ≠ 164 → F c k = FI2 c k) → (B.length + 3 ≤ 4000 → ∀ i, i < B.length + 3 → (F 154 i).toInt = (f_turn e.2.2.1 e.2.2.2 B).getD i 0) → r_vw F S (f_turn e.2.2.1 e.2.2.2 B) ∧ o_vw F o0 S (o - 1) ∧ f_top S ≠ 9 := by
    intro F hF hc2
    refine ⟨⟨by rw [hF 121 90 (by decide) (by decide)]; exact hr2.1, hr2.2.1, w_vw_cg hr2.2.2.1 (fun c i h1 h2 _ => hF c i (by omega) (by omega)), hr2.2.2.2.1, hr2.2.2.2.2.1, f_pl_le hr1.2.2.2.2.2.1 (by omega), ?_, ?_⟩, ?_, h9⟩
    · rw [hF 121 73 (by decide) (by decide), hlen, ← hl2]; exact hB2.1
    · rw [hlen]; exact hc2
    · exact ⟨by rw [hF 121 71 (by decide) (by decide)]; exact ho2.1, ho2.2⟩
  rcases h with ⟨h1, h⟩ | ⟨h1, h⟩
  · obtain ⟨-, rfl⟩ := h
    refine fin FI2 (fun _ _ _ _ => rfl) (fun h4 => ?_)
    exfalso
    have e4 : ((4000 : Int32)).toInt = 4000 := by decide
    rw [hB2.1, i_lit (by omega), e4] at h1
    omega
  · have hk3 := kX12_turned_74 h
    refine fin s.2.2.2.1 (fun c k h4 h5 => kq_fld hk3 ?_) (fun h4 i hi => ?_)
    · have : k_no mX12_turned_74 c = true := by
        unfold k_no mX12_turned_74
        simp [h4, h5]
      exact k_no_in this k
    · have ha : (FI 167 ((FI 121 90) - ((1 : Int32))).toInt.toNat).toInt = e.2.2.1 := by rw [hix, w1, i_lit (by omega)]
      have hm : (FI 168 ((FI 121 90) - ((1 : Int32))).toInt.toNat).toInt = e.2.2.2 := by rw [hix, w2, i_lit (by omega)]
      have hL : (FI 121 73).toInt = B.length := by rw [hB.1, i_lit (by omega)]
      have hf := i_sub (i_sub hm ha (by omega) (by omega)) (by decide : ((2 : Int32)).toInt = 2) (by omega) (by omega)
      have hg := i_sub hL hm (by omega) (by omega)
      have hf2 : ((e.2.2.2 : Int) - e.2.2.1 - 2) = ((e.2.2.2 - e.2.2.1 - 2 : Nat) : Int) := by omega
      have hg2 : ((B.length : Int) - e.2.2.2) = ((B.length - e.2.2.2 : Nat) : Int) := by omega
      rw [hf2] at hf
      rw [hg2] at hg
      obtain ⟨u1, h⟩ := h
      obtain ⟨G1, ⟨u2, q1⟩, q2, q3, -⟩ := tu_74 ha hm hf hg (by omega) (by omega) u1 0 n2 sl2 SH2 FI2 FL2 FR2 v s 0 h (by decide) (by omega)
      obtain ⟨G2, ⟨u3, q5⟩, q6, q7, q8⟩ := tu_107 ha hm hf hg (by omega) (by omega) (by omega) hpl.1 u2 0 n2 sl2 SH2 G1 FL2 FR2 v s 0 q1 (by decide) (by omega)
      have hp := i_add (i_add ha (by decide : ((2 : Int32)).toInt = 2) (by omega) (by omega)) hg (by omega) (by omega)
      have hp2 : ((e.2.2.1 : Int) + 2 + ((B.length - e.2.2.2 : Nat) : Int)) = ((e.2.2.1 + 2 + (B.length - e.2.2.2) : Nat) : Int) := by omega
      rw [hp2] at hp
      obtain ⟨r1, r2, r3, r4⟩ := tu_191 ha hf hg hp (by omega) (by omega) (by omega) (by omega) (by omega) u3 0 n2 sl2 SH2 _ FL2 FR2 v s 0 q5 (by decide) (by omega)
      have hBc : ∀ j, j < B.length → (FI2 154 j).toInt = B.getD j 0 := by
        intro j hj
        rw [hB2.2 (by omega) j (by omega), l_getD_app hj]
      rw [f_turn_get hpl.1 hpl.2 i hi]
      by_cases c1 : i < e.2.2.1
      · rw [if_pos c1, r4 i (by omega) (by omega) (Or.inl (by omega)), h_up_ne (by omega), h_up_ne (by omega), h_up_ne (by omega), q8 i (Or.inl (by omega)), q2, hBc i (by omega)]
      · rw [if_neg c1]
        by_cases c2 : i = e.2.2.1
        · rw [if_pos c2, c2]; exact r1
        · rw [if_neg c2]
          by_cases c3 : i = e.2.2.1 + 1
          · rw [if_pos c3, c3]; exact r2
          · rw [if_neg c3]
            by_cases c4 : i < e.2.2.1 + 2 + (B.length - e.2.2.2)
            · have hj := q7 (i - (e.2.2.1 + 2)) (by omega) (by omega)
              rw [show e.2.2.1 + 2 + (i - (e.2.2.1 + 2)) = i by omega] at hj
              rw [if_pos c4, r4 i c2 c3 (Or.inl (by omega)), h_up_ne (by omega), h_up_ne (by omega), h_up_ne (by omega), hj, q2, hBc _ (by omega)]
            · rw [if_neg c4]
              by_cases c5 : i = e.2.2.1 + 2 + (B.length - e.2.2.2)
              · rw [if_pos c5, r4 i c2 c3 (Or.inl (by omega)), c5, h_up_ne (by omega), h_up_ne (by omega), h_up_eq]
                decide
              · rw [if_neg c5]
                by_cases c6 : i = e.2.2.1 + 2 + (B.length - e.2.2.2) + 1
                · rw [if_pos c6, r4 i c2 c3 (Or.inl (by omega)), c6, h_up_ne (by omega), h_up_eq, i_m255, hf]
                · rw [if_neg c6]
                  by_cases c7 : i = e.2.2.1 + 2 + (B.length - e.2.2.2) + 2
                  · rw [if_pos c7, r4 i c2 c3 (Or.inl (by omega)), c7, h_up_eq, i_m255, i_sh8 hf]
                  · rw [if_neg c7]
                    have hj := r3 (i - (e.2.2.1 + 2 + (B.length - e.2.2.2) + 3)) (by omega) (by omega)
                    rw [show e.2.2.1 + 2 + (B.length - e.2.2.2) + 3 + (i - (e.2.2.1 + 2 + (B.length - e.2.2.2) + 3)) = i by omega] at hj
                    rw [hj, h_up_nc (by decide), h_up_nc (by decide), h_up_nc (by decide), q6, q3 _ (by omega) (by omega), hBc _ (by omega)]
theorem f_all_pop : ∀ (S : List f_E) (o : Int) (B : List Int), f_all (f_pop 1 S B).1 o (f_pop 1 S B).2 = f_all S o B
  | [], _, _ => rfl
  | e :: S, o, B => by
    by_cases h : 1 ≤ e.1
    · have e1 : f_pop 1 (e :: S) B = f_pop 1 S (B ++ e.2.1) := by simp only [f_pop, if_pos h]
      have e2 : f_all (e :: S) o B = f_all S o (B ++ e.2.1) := by simp only [f_all, if_pos h]
      rw [e1, e2]
      exact f_all_pop S o _
    · have e1 : f_pop 1 (e :: S) B = (e :: S, B) := by simp only [f_pop, if_neg h]
      rw [e1]
theorem rs_all : ∀ (g n sl : Nat) (SH : Nat → Nat × Nat) (FI : Nat → Nat → Int32) (FL : Nat → Nat → Int64) (FR : Nat → Nat → Option Nat) (v : Unit) (s : hS) (S : List f_E) (o0 o : Int) (B : List Int), GX12_reducedAll_5 g n sl SH FI FL FR v s → r_vw FI S B → o_vw FI o0 S o → f_top S ≠ 9 → f_top S < 1 → r_vw s.2.2.2.1 (f_all S o B).1 (f_all S o B).2.2 ∧ o_vw s.2.2.2.1 o0 (f_all S o B).1 (f_all S o B).2.1 ∧ f_top (f_all S o B).1 < 1 ∧ f_top (f_all S o B).1 ≠ -3 := by
  intro g
  induction g with
  | zero => intro n sl SH FI FL FR v s S o0 o B h; exact h.elim
  | succ g ih =>
    intro n sl SH FI FL FR v s S o0 o B h hr ho h9 h1
    have ht := r_tops (SH := SH) (FL := FL) (FR := FR) hr
    have e3 : ((-3 : Int32)).toInt = -3 := by decide
    have e1 : ((1 : Int32)).toInt = 1 := by decide
    rcases h with ⟨h2, h⟩ | ⟨h2, h⟩
    · obtain ⟨v1, n1, sl1, SH1, FI1, FL1, FR1, hc, h⟩ := h
      obtain ⟨v2, n2, sl2, SH2, FI2, FL2, FR2, hd, h⟩ := h
      rw [ht, e3] at h2
      cases S with
      | nil => exact absurd h2 (by decide)
      | cons e S =>
        have h3 : e.1 = -3 := h2
        obtain ⟨q1, q2, q3⟩ := rs_turned hc hr ho h3
        obtain ⟨g2, hd⟩ := hd
        have q := rs_reduced (b := 1) (by decide) g2 n1 sl1 SH1 FI1 FL1 FR1 v2 _ S o0 (o - 1) _ hd q1 q2 q3
        rw [e1] at q
        obtain ⟨p1, p2, p3, p4⟩ := q
        have k := ih n2 sl2 SH2 FI2 FL2 FR2 v s _ o0 (o - 1) _ h p1 p2 p3 p4
        rw [f_all_pop] at k
        have e4 : f_all (e :: S) o B = f_all S (o - 1) (f_turn e.2.2.1 e.2.2.2 B) := by
          simp only [f_all]
          rw [if_neg (by omega), if_pos h3]
        rw [e4]
        exact k
    · obtain ⟨-, rfl⟩ := h
      rw [ht, e3] at h2
      rw [f_all_stop h1 h2]
      exact ⟨hr, ho, h1, h2⟩
theorem rs_reducedAll {S : List f_E} {o0 o : Int} {B : List Int} (h : RX12_reducedAll n sl SH FI FL FR v s) (hr : r_vw FI S B) (ho : o_vw FI o0 S o) (h9 : f_top S ≠ 9) : r_vw s.2.2.2.1 (f_all S o B).1 (f_all S o B).2.2 ∧ o_vw s.2.2.2.1 o0 (f_all S o B).1 (f_all S o B).2.1 ∧ f_top (f_all S o B).1 < 1 ∧ f_top (f_all S o B).1 ≠ -3 := by
  obtain ⟨v1, n1, sl1, SH1, FI1, FL1, FR1, ⟨g1, hc⟩, g2, h⟩ := h
  have e1 : ((1 : Int32)).toInt = 1 := by decide
  have q := rs_reduced (b := 1) (by decide) g1 n sl SH FI FL FR v1 _ S o0 o B hc hr ho h9
  rw [e1] at q
  obtain ⟨p1, p2, p3, p4⟩ := q
  have k := rs_all g2 n1 sl1 SH1 FI1 FL1 FR1 v s _ o0 o _ h p1 p2 p3 p4
  rw [f_all_pop] at k
  exact k
end TA
end
section
/-! What the reference looks at: tokens by K, W. -/
def p_tk (K W : Nat → Int) (FI : Nat → Nat → Int32) (FL : Nat → Nat → Int64) (t : Nat) : Prop := kf (FI 149) = K ∧ wf (FL 150) = W ∧ FI 121 68 = Int32.ofNat t ∧ t ≤ 2000
section PT
variable {K W : Nat → Int} {n sl : Nat} {SH : Nat → Nat × Nat} {FI : Nat → Nat → Int32} {FL : Nat → Nat → Int64} {FR : Nat → Nat → Option Nat} {t : Nat}
theorem tk_n (h : p_tk K W FI FL t) : (FI 121 68).toInt = t := by
  have := h.2.2.2
  rw [h.2.2.1, i_lit (by omega)]
theorem tk_i (h : p_tk K W FI FL t) : (FI 121 68).toInt.toNat = t := by
  have := tk_n h
  omega
theorem tk_n1 (h : p_tk K W FI FL t) : ((FI 121 68) + ((1 : Int32))).toInt = ((t + 1 : Nat) : Int) := by
  have := h.2.2.2
  rw [i_add (tk_n h) (by decide : ((1 : Int32)).toInt = 1) (by omega) (by omega)]
  omega
theorem tk_i1 (h : p_tk K W FI FL t) : ((FI 121 68) + ((1 : Int32))).toInt.toNat = t + 1 := by
  have := tk_n1 h
  omega
theorem tk_K (h : p_tk K W FI FL t) (i : Nat) : (FI 149 i).toInt = K i := by rw [← h.1]; rfl
theorem tk_W (h : p_tk K W FI FL t) (i : Nat) : (FL 150 i).toInt = W i := by rw [← h.2.1]; rfl
theorem tk_sign {a : Int32} {A : Int} (h : p_tk K W FI FL t) (ha : a.toInt = A) : (fX12_isSign a SH FI FL FR).toInt = 0 ↔ ¬ (K t = 5 ∧ W t = A) := by
  have c5 : ((5 : Int32)).toInt = 5 := by decide
  unfold fX12_isSign
  rw [tk_i h, tk_K h, tk_W h, c5, Int32.toInt_toInt64, ha]
  by_cases h1 : K t = 5
  · by_cases h2 : W t = A
    · simp only [h1, h2, if_true, and_self, not_true, iff_false]; decide
    · simp only [h1, h2, if_true, if_false, and_false, not_false_eq_true, iff_true]; decide
  · simp only [h1, if_false, false_and, not_false_eq_true, iff_true]; decide
theorem tk_word {a : Int32} {A : Int} (h : p_tk K W FI FL t) (ha : a.toInt = A) : (fX12_isWord a SH FI FL FR).toInt = 0 ↔ ¬ (K t = 2 ∧ W t = A) := by
  have c5 : ((2 : Int32)).toInt = 2 := by decide
  unfold fX12_isWord
  rw [tk_i h, tk_K h, tk_W h, c5, Int32.toInt_toInt64, ha]
  by_cases h1 : K t = 2
  · by_cases h2 : W t = A
    · simp only [h1, h2, if_true, and_self, not_true, iff_false]; decide
    · simp only [h1, h2, if_true, if_false, and_false, not_false_eq_true, iff_true]; decide
  · simp only [h1, if_false, false_and, not_false_eq_true, iff_true]; decide
theorem tk_mul {k : Int32} {w : Int64} : (fX12_multiplies k w SH FI FL FR).toInt = if au_bn k.toInt w.toInt = 7 then lc_op k.toInt w.toInt else -1 := by
  have c5 : ((5 : Int32)).toInt = 5 := by decide
  have c2 : ((2 : Int32)).toInt = 2 := by decide
  have c42 : ((42 : Int64)).toInt = 42 := by decide
  have c8 : ((8 : Int64)).toInt = 8 := by decide
  have c9 : ((9 : Int64)).toInt = 9 := by decide
  unfold fX12_multiplies lc_op
  rw [c5, c2, c42, c8, c9]
  simp only [au_bn_7]
  by_cases a1 : k.toInt = 5
  · by_cases a2 : w.toInt = 42
    · simp [a1, a2]
    · simp [a1, a2]
  · by_cases a3 : k.toInt = 2
    · by_cases a4 : w.toInt = 8
      · simp [a3, a4]
      · by_cases a5 : w.toInt = 9
        · simp [a3, a5]
        · simp [a3, a4, a5]
    · simp [a1, a3]
theorem tk_cmp {k : Int32} {w : Int64} : (fX12_compares k w SH FI FL FR).toInt = if au_bn k.toInt w.toInt = 4 then lc_op k.toInt w.toInt else -1 := by
  have c5 : ((5 : Int32)).toInt = 5 := by decide
  have d1 : ((257 : Int32).toInt64).toInt = 257 := by decide
  have d2 : ((258 : Int32).toInt64).toInt = 258 := by decide
  have d3 : ((60 : Int64)).toInt = 60 := by decide
  have d4 : ((259 : Int32).toInt64).toInt = 259 := by decide
  have d5 : ((62 : Int64)).toInt = 62 := by decide
  have d6 : ((260 : Int32).toInt64).toInt = 260 := by decide
  have d7 : ((257 : Int64)).toInt = 257 := by decide
  have d8 : ((258 : Int64)).toInt = 258 := by decide
  have d9 : ((259 : Int64)).toInt = 259 := by decide
  have d0 : ((260 : Int64)).toInt = 260 := by decide
  unfold fX12_compares lc_op
  simp only [c5, d1, d2, d3, d4, d5, d6, d7, d8, d9, d0, au_bn_4]
  by_cases a1 : k.toInt = 5
  · by_cases a2 : w.toInt = 257
    · simp [a1, a2]
    · by_cases a3 : w.toInt = 258
      · simp [a1, a3]
      · by_cases a4 : w.toInt = 60
        · simp [a1, a4]
        · by_cases a5 : w.toInt = 259
          · simp [a1, a5]
          · by_cases a6 : w.toInt = 62
            · simp [a1, a6]
            · by_cases a7 : w.toInt = 260
              · simp [a1, a7]
              · simp [a1, a2, a3, a4, a5, a6, a7]
  · simp [a1]
theorem tk_shf {k : Int32} {w : Int64} : (fX12_shifts k w SH FI FL FR).toInt = if au_bn k.toInt w.toInt = 5 then lc_op k.toInt w.toInt else -1 := by
  have c5 : ((5 : Int32)).toInt = 5 := by decide
  have d1 : ((261 : Int64)).toInt = 261 := by decide
  have d2 : ((262 : Int64)).toInt = 262 := by decide
  have d3 : ((263 : Int64)).toInt = 263 := by decide
  unfold fX12_shifts lc_op
  simp only [c5, d1, d2, d3, au_bn_5]
  by_cases a1 : k.toInt = 5
  · by_cases a2 : w.toInt = 261
    · simp [a1, a2]
    · by_cases a3 : w.toInt = 262
      · simp [a1, a3]
      · by_cases a4 : w.toInt = 263
        · simp [a1, a4]
        · simp [a1, a2, a3, a4]
  · simp [a1]
theorem tk_adds {i : Int32} {j : Nat} (h : p_tk K W FI FL t) (hi : i.toInt = j) : (fX12_adds i SH FI FL FR).toInt = 0 ↔ ¬ (K j = 5 ∧ (W j = 43 ∨ W j = 45)) := by
  have c5 : ((5 : Int32)).toInt = 5 := by decide
  have d1 : ((43 : Int64)).toInt = 43 := by decide
  have d2 : ((45 : Int64)).toInt = 45 := by decide
  have hj : i.toInt.toNat = j := by omega
  unfold fX12_adds
  rw [hj, tk_K h, tk_W h, c5, d1, d2]
  by_cases a1 : K j = 5
  · by_cases a2 : W j = 43
    · simp [a1, a2]
    · by_cases a3 : W j = 45
      · simp [a1, a3]
      · simp [a1, a2, a3]
  · simp [a1]
theorem tk_alone {i : Int32} {j : Nat} (h : p_tk K W FI FL t) (hi : i.toInt = j) (hb : j ≤ 4000) : (fX12_isAlone i SH FI FL FR).toInt = 0 ↔ lc_al K W j = false := by
  have c3 : ((3 : Int32)).toInt = 3 := by decide
  have c1 : ((-1 : Int32)).toInt = -1 := by decide
  have hj : i.toInt.toNat = j := by omega
  have hj1 : (i + (1 : Int32)).toInt.toNat = j + 1 := by
    rw [i_add hi (by decide : ((1 : Int32)).toInt = 1) (by omega) (by omega)]; omega
  unfold fX12_isAlone lc_al
  rw [hj, hj1, tk_mul, tk_K h, tk_K h, tk_W h, c3, c1]
  by_cases a1 : K j = 3
  · by_cases a2 : au_bn (K (j + 1)) (W (j + 1)) = 7
    · have hne : lc_op (K (j + 1)) (W (j + 1)) ≠ -1 := by
        rcases au_bn_7.mp a2 with ⟨e1, e2⟩ | ⟨e1, e2 | e2⟩ <;> rw [e1, e2] <;> decide
      simp [a1, a2, hne]
    · simp [a1, a2]
  · simp [a1]
end PT
/-! The view of the whole walk. -/
def p_vw (K W : Nat → Int) (o0 : Int) (FI : Nat → Nat → Int32) (FL : Nat → Nat → Int64) (t : Nat) (S : List f_E) (o : Int) (B : List Int) : Prop := p_tk K W FI FL t ∧ (FI 121 69).toInt = 0 ∧ r_vw FI S B ∧ o_vw FI o0 S o
/-- what a frame must leave alone -/
def k_pv (m : k_M) : Bool := k_no m 149 && k_no (m.2.2.1, m.2.2.2, [], []) 150 && !k_in m.1 m.2.1 121 68 && !k_in m.1 m.2.1 121 69 && !k_in m.1 m.2.1 121 71 && !k_in m.1 m.2.1 121 90 && (k_no m 165 && k_no m 166 && k_no m 167 && k_no m 168)
section PV
variable {K W : Nat → Int} {o0 : Int} {n sl : Nat} {SH : Nat → Nat × Nat} {FI : Nat → Nat → Int32} {FL : Nat → Nat → Int64} {FR : Nat → Nat → Option Nat} {t : Nat} {S : List f_E} {o : Int} {B : List Int}
theorem p_em {m : k_M} {a b : hS} {c : List Int} (h : p_vw K W o0 a.2.2.2.1 a.2.2.2.2.1 t S o B) (hk : kq m a b) (he : e_ap a.2.2.2.1 b.2.2.2.1 c) (hm : k_pv m = true) : p_vw K W o0 b.2.2.2.1 b.2.2.2.2.1 t S o (B ++ c) := by
  unfold k_pv at hm
  simp only [Bool.and_eq_true, Bool.not_eq_true'] at hm
  obtain ⟨⟨⟨⟨⟨⟨m1, m2⟩, m3⟩, m4⟩, m5⟩, m6⟩, m7⟩ := hm
  obtain ⟨⟨h1, h2, h3, h4⟩, h5, h6, h7⟩ := h
  refine ⟨⟨by rw [kq_cell hk m1]; exact h1, by rw [kq_fl hk m2]; exact h2, by rw [kq_fld hk m3]; exact h3, h4⟩, by rw [kq_fld hk m4]; exact h5, r_em h6 hk he m6 (by simp only [Bool.and_eq_true]; exact m7), by rw [kq_fld hk m5]; exact h7.1, h7.2⟩
theorem p_tk_f {k : Nat} {x : Int32} (h : p_tk K W FI FL t) (h1 : k ≠ 68) : p_tk K W (h_up FI 121 k x) FL t := ⟨by rw [h_up_nc (by decide)]; exact h.1, h.2.1, by rw [h_up_x (by rintro ⟨-, e⟩; exact h1 e.symm)]; exact h.2.2.1, h.2.2.2⟩
theorem p_fl {k : Nat} {x : Int32} (h : p_vw K W o0 FI FL t S o B) (h1 : k ≠ 68) (h2 : k ≠ 69) (h3 : k ≠ 71) (h4 : k ≠ 73) (h5 : k ≠ 90) : p_vw K W o0 (h_up FI 121 k x) FL t S o B := ⟨p_tk_f h.1 h1, by rw [h_up_x (by rintro ⟨-, e⟩; exact h2 e.symm)]; exact h.2.1, r_fl h.2.2.1 h4 h5, by rw [h_up_x (by rintro ⟨-, e⟩; exact h3 e.symm)]; exact h.2.2.2.1, h.2.2.2.2⟩
theorem p_ti {x : Int32} {t1 : Nat} (h : p_vw K W o0 FI FL t S o B) (hx : x.toInt = t1) (ht : t1 ≤ 2000) : p_vw K W o0 (h_up FI 121 68 x) FL t1 S o B := by
  refine ⟨⟨by rw [h_up_nc (by decide)]; exact h.1.1, h.1.2.1, ?_, ht⟩, by rw [h_up_x (by decide)]; exact h.2.1, r_fl h.2.2.1 (by decide) (by decide), by rw [h_up_x (by decide)]; exact h.2.2.2.1, h.2.2.2.2⟩
  rw [h_up_eq]
  exact i_eqv (by rw [hx, i_lit (by omega)])
theorem p_fin {v : Unit} {s : hS} (h : RX12_finished n sl SH FI FL FR v s) (hp : p_vw K W o0 FI FL t S o B) : p_vw K W o0 s.2.2.2.1 s.2.2.2.2.1 t (f_fin S o B).1 (f_fin S o B).2.1 (f_fin S o B).2.2 ∧ f_top (f_fin S o B).1 ≠ 9 := by
  have hk := kX12_finished h
  obtain ⟨g, h⟩ := h
  obtain ⟨q1, q2, q3⟩ := rs_finished g n sl SH FI FL FR v s S o0 o B h hp.2.2.1 hp.2.2.2
  exact ⟨⟨⟨by rw [kq_cell hk (by decide)]; exact hp.1.1, by rw [kq_fl hk (by decide)]; exact hp.1.2.1, by rw [kq_fld hk (by decide)]; exact hp.1.2.2.1, hp.1.2.2.2⟩, by rw [kq_fld hk (by decide)]; exact hp.2.1, q1, q2⟩, q3⟩
theorem p_red {b : Int32} {c : Int} {v : Unit} {s : hS} (h : RX12_reduced b n sl SH FI FL FR v s) (hb : b.toInt = c) (hc : 1 ≤ c) (hp : p_vw K W o0 FI FL t S o B) (h9 : f_top S ≠ 9) : p_vw K W o0 s.2.2.2.1 s.2.2.2.2.1 t (f_pop c S B).1 o (f_pop c S B).2 ∧ f_top (f_pop c S B).1 ≠ 9 ∧ f_top (f_pop c S B).1 < c := by
  have hk := kX12_reduced h
  obtain ⟨g, h⟩ := h
  subst hb
  obtain ⟨q1, q2, q3, q4⟩ := rs_reduced hc g n sl SH FI FL FR v s S o0 o B h hp.2.2.1 hp.2.2.2 h9
  exact ⟨⟨⟨by rw [kq_cell hk (by decide)]; exact hp.1.1, by rw [kq_fl hk (by decide)]; exact hp.1.2.1, by rw [kq_fld hk (by decide)]; exact hp.1.2.2.1, hp.1.2.2.2⟩, by rw [kq_fld hk (by decide)]; exact hp.2.1, q1, q2⟩, q3, q4⟩
theorem p_all {v : Unit} {s : hS} (h : RX12_reducedAll n sl SH FI FL FR v s) (hp : p_vw K W o0 FI FL t S o B) (h9 : f_top S ≠ 9) : p_vw K W o0 s.2.2.2.1 s.2.2.2.2.1 t (f_all S o B).1 (f_all S o B).2.1 (f_all S o B).2.2 ∧ f_top (f_all S o B).1 < 1 ∧ f_top (f_all S o B).1 ≠ -3 := by
  have hk := kX12_reducedAll h
  obtain ⟨q1, q2, q3⟩ := rs_reducedAll h hp.2.2.1 hp.2.2.2 h9
  exact ⟨⟨⟨by rw [kq_cell hk (by decide)]; exact hp.1.1, by rw [kq_fl hk (by decide)]; exact hp.1.2.1, by rw [kq_fld hk (by decide)]; exact hp.1.2.2.1, hp.1.2.2.2⟩, by rw [kq_fld hk (by decide)]; exact hp.2.1, q1, q2⟩, q3⟩
theorem f_fault {k : Int32} {v : Unit} {s : hS} (h : RX12_fail k n sl SH FI FL FR v s) (hk : k.toInt ≠ 0) : (s.2.2.2.1 121 69).toInt ≠ 0 := by
  rcases h with ⟨h0, h⟩ | ⟨h0, h⟩
  · obtain ⟨-, -, rfl⟩ := h
    try dsimp only
    rw [h_up_x (by decide), h_up_eq]
    exact hk
  · obtain ⟨-, rfl⟩ := h
    exact h0
/-- opens: refused at the thirteenth, or one more is open and the next token stands -/
theorem p_opens {v : Unit} {s : hS} (h : RX12_opens n sl SH FI FL FR v s) (ht : p_tk K W FI FL t) (ht2 : t + 1 ≤ 2000) (ho : (FI 121 71).toInt = o) (ho2 : o ≤ 12) (ho3 : 0 ≤ o) : (o = 12 ∧ (s.2.2.2.1 121 69).toInt ≠ 0) ∨ (o < 12 ∧ s = (n, sl, SH, h_up (h_up FI 121 71 (FI 121 71 + 1)) 121 68 (FI 121 68 + 1), FL, FR)) := by
  have c12 : ((12 : Int32)).toInt = 12 := by decide
  rcases h with ⟨h1, h⟩ | ⟨h1, h⟩
  · obtain ⟨v1, n1, sl1, SH1, FI1, FL1, FR1, hc, h⟩ := h
    obtain ⟨-, rfl⟩ := h
    refine Or.inl ⟨by omega, ?_⟩
    try dsimp only
    rw [h_up_x (by decide), h_up_x (by decide)]
    exact f_fault hc (by decide)
  · obtain ⟨-, rfl⟩ := h
    exact Or.inr ⟨by omega, rfl⟩
/-- opens and later: one more waits -/
theorem p_openlater {c b : Int32} {y : List Int} {v1 v2 : Unit} {n1 sl1 : Nat} {SH1 : Nat → Nat × Nat} {FI1 : Nat → Nat → Int32} {FL1 : Nat → Nat → Int64} {FR1 : Nat → Nat → Option Nat} {s : hS} (hS : h_S n SH) (h1 : RX12_opens n sl SH FI FL FR v1 (n1, sl1, SH1, FI1, FL1, FR1)) (h2 : RX12_later c b n1 sl1 SH1 FI1 FL1 FR1 v2 s) (hp : p_vw K W o0 FI FL t S o B) (ht : t < 1002) (hb : b.toInt = 9 ∨ b.toInt = -1) (hy : 1 ≤ b.toInt → y = w_by c.toInt ∧ 0 ≤ c.toInt ∧ c.toInt < 512 ∧ (b.toInt ≠ 9 → c.toInt < 256)) : (12 ≤ o ∧ (s.2.2.2.1 121 69).toInt ≠ 0) ∨ (¬ 12 ≤ o ∧ p_vw K W o0 s.2.2.2.1 s.2.2.2.2.1 (t + 1) ((b.toInt, y, 0, 0) :: S) (o + 1) B) := by
  have hk := kX12_later h2
  have ho := hp.2.2.2
  have hop := f_op_0 S
  rcases p_opens h1 hp.1 (by omega) ho.1 ho.2.2.2 (by have := ho.2.1; have := ho.2.2.1; omega) with ⟨g1, g2⟩ | ⟨g1, g2⟩
  · refine Or.inl ⟨by omega, ?_⟩
    rw [kq_fld hk (by decide)]
    exact g2
  · cases g2
    refine Or.inr ⟨by omega, ?_⟩
    obtain ⟨g3, g4, -, rfl⟩ := h2
    have hr := r_fl (k := 68) (x := FI 121 68 + 1) (r_fl (k := 71) (x := FI 121 71 + 1) hp.2.2.1 (by decide) (by decide)) (by decide) (by decide)
    have hlt : S.length < 256 := by
      have e := r_vw_n hr
      have g5 := g3.2
      rw [s165 hS] at g5
      have : (((256 : Nat)) : Int) = 256 := rfl
      omega
    have hq := r_push (c := c) (b := b) (p := 0) (q := 0) (y := y) hr hlt (by rcases hb with h | h; exact Or.inl h; exact Or.inr (Or.inl h)) hy
    refine ⟨⟨?_, hp.1.2.1, ?_, by omega⟩, ?_, hq, ?_⟩
    · try dsimp only
      rw [h_up_nc (by decide), h_up_nc (by decide), h_up_nc (by decide), h_up_nc (by decide), h_up_nc (by decide)]
      exact hp.1.1
    · try dsimp only
      rw [h_up_x (by decide), h_up_nc (by decide), h_up_nc (by decide), h_up_eq]
      exact i_eqv (by rw [tk_n1 hp.1, i_lit (by omega)])
    · try dsimp only
      rw [h_up_x (by decide), h_up_nc (by decide), h_up_nc (by decide), h_up_x (by decide), h_up_x (by decide)]
      exact hp.2.1
    · refine ⟨?_, ?_, ho.2.2.1, by omega⟩
      · try dsimp only
        rw [h_up_x (by decide), h_up_nc (by decide), h_up_nc (by decide), h_up_x (by decide), h_up_eq]
        rw [i_add ho.1 (by decide : ((1 : Int32)).toInt = 1) (by have := ho.2.1; have := ho.2.2.1; omega) (by omega)]
      · rw [f_op, if_neg (by show ¬ (1 ≤ b.toInt ∧ b.toInt ≤ 7); omega)]
        have := ho.2.1
        omega
end PV
end
section
/-! operand and operator do what f_opd and f_opr say. -/
def tk_rg (K W : Nat → Int) : Prop := ∀ i, (K i = 3 → 0 ≤ W i ∧ W i ≤ 999999999999999999) ∧ (K i = 4 → 1 ≤ W i ∧ W i ≤ 8)
def q_opd (K W : Nat → Int) (o0 : Int) (s : hS) (v : Int32) (r : Option f_St) : Prop := match r with
  | none => (s.2.2.2.1 121 69).toInt ≠ 0
  | some (t1, w, S1, o1, B1) => p_vw K W o0 s.2.2.2.1 s.2.2.2.2.1 t1 S1 o1 B1 ∧ (w = false → f_top S1 ≠ 9) ∧ (v.toInt = 0 ↔ w = true)
section OD
variable {K W : Nat → Int} {o0 : Int} {n sl : Nat} {SH : Nat → Nat × Nat} {FI : Nat → Nat → Int32} {FL : Nat → Nat → Int64} {FR : Nat → Nat → Option Nat} {t : Nat} {S : List f_E} {o : Int} {B : List Int} {s : hS}
theorem tk_lt {i : Int32} {z : Nat} (hS : h_S n SH) (h : p_in i (SH 149).2) (hi : i.toInt = z) : z < 1002 := by
  have h2 := h.2
  rw [s149 hS] at h2
  have : ((1002 : Nat) : Int) = 1002 := rfl
  omega
theorem tk_lt2 {i : Int32} {z : Nat} (hS : h_S n SH) (h : p_in i (SH 150).2) (hi : i.toInt = z) : z < 1002 := by
  have h2 := h.2
  rw [s150 hS] at h2
  have : ((1002 : Nat) : Int) = 1002 := rfl
  omega
theorem op_un {c : Int32} {v1 v2 : Unit} {v : Int32} {n1 sl1 n2 sl2 : Nat} {SH1 SH2 : Nat → Nat × Nat} {FI1 FI2 : Nat → Nat → Int32} {FL1 FL2 : Nat → Nat → Int64} {FR1 FR2 : Nat → Nat → Option Nat} (hS : h_S n SH) (hp : p_vw K W o0 FI FL t S o B) (ht : t < 1002) (h1 : RX12_opens n sl SH FI FL FR v1 (n1, sl1, SH1, FI1, FL1, FR1)) (h2 : RX12_later c 9 n1 sl1 SH1 FI1 FL1 FR1 v2 (n2, sl2, SH2, FI2, FL2, FR2)) (h3 : P_ret (0 : Int32) (n2, sl2, SH2, FI2, FL2, FR2) v s) (hy : lc_un (K t) (W t) = w_by c.toInt) (hc : 0 ≤ c.toInt ∧ c.toInt < 512) : q_opd K W o0 s v (if 12 ≤ o then none else some (t + 1, true, (9, lc_un (K t) (W t), 0, 0) :: S, o + 1, B)) := by
  have e9 : ((9 : Int32)).toInt = 9 := by decide
  obtain ⟨rfl, rfl⟩ := h3
  rcases p_openlater (y := lc_un (K t) (W t)) hS h1 h2 hp ht (Or.inl e9) (fun _ => ⟨hy, hc.1, hc.2, fun h => absurd e9 h⟩) with ⟨g1, g2⟩ | ⟨g1, g2⟩
  · rw [if_pos g1]
    exact g2
  · rw [if_neg g1]
    rw [e9] at g2
    exact ⟨g2, fun h => (Bool.noConfusion h), by simp⟩
theorem op_40 {v : Int32} (h : RX12_operand_40 n sl SH FI FL FR v s) (hS : h_S n SH) (hp : p_vw K W o0 FI FL t S o B) (hg : tk_rg K W) (hu : lc_uy (K t) (W t) = true) : q_opd K W o0 s v (if 12 ≤ o then none else some (t + 1, true, (9, lc_un (K t) (W t), 0, 0) :: S, o + 1, B)) := by
  have c4 : ((4 : Int32)).toInt = 4 := by decide
  have c8 : ((8 : Int32)).toInt = 8 := by decide
  have c45 : ((45 : Int32)).toInt = 45 := by decide
  have hu2 : K t = 4 ∨ (K t = 5 ∧ (W t = 45 ∨ W t = 126)) ∨ (K t = 2 ∧ W t = 7) := by simpa [lc_uy] using hu
  obtain ⟨hp0, h⟩ := h
  have ht := tk_lt2 hS hp0 (tk_n hp.1)
  have hW : (FL 150 (FI 121 68).toInt.toNat).toInt = W t := by rw [tk_i hp.1, tk_W hp.1]
  have hK : (FI 149 (FI 121 68).toInt.toNat).toInt = K t := by rw [tk_i hp.1, tk_K hp.1]
  rcases h with ⟨h1, h⟩ | ⟨h1, h⟩
  · rw [tk_word hp.1 (by decide : ((7 : Int32)).toInt = 7)] at h1
    obtain ⟨-, h⟩ := h
    rcases h with ⟨h2, h⟩ | ⟨h2, h⟩
    · rw [hK, c4] at h2
      have hr := (hg t).2 h2
      have hW2 := l_2i hW (by omega) (by omega)
      rcases h with ⟨h3, h⟩ | ⟨h3, h⟩
      · obtain ⟨v4, n4, sl4, SH4, FI4, FL4, FR4, hc, v5, n5, sl5, SH5, FI5, FL5, FR5, hd, h⟩ := h
        rw [hW2, c8] at h3
        exact op_un hS hp ht hc hd h (by rw [h2, h3]; decide) (by decide)
      · obtain ⟨v4, n4, sl4, SH4, FI4, FL4, FR4, hc, v5, n5, sl5, SH5, FI5, FL5, FR5, hd, h⟩ := h
        rw [hW2, c8] at h3
        have e : (((256 : Int32)) + ((FL 150 (FI 121 68).toInt.toNat).toInt32)).toInt = 256 + W t := i_add (by decide : ((256 : Int32)).toInt = 256) hW2 (by omega) (by omega)
        refine op_un hS hp ht hc hd h ?_ (by rw [e]; omega)
        rw [e, w_by, if_neg (by omega), h2]
        simp [lc_un, h3]
        omega
    · rw [hK, c4] at h2
      have hk : K t = 5 ∧ (W t = 45 ∨ W t = 126) := by
        rcases hu2 with h | h | h
        · exact absurd h h2
        · exact h
        · exact absurd h h1
      have hW2 := l_2i hW (by omega) (by omega)
      rcases h with ⟨h3, h⟩ | ⟨h3, h⟩
      · obtain ⟨v4, n4, sl4, SH4, FI4, FL4, FR4, hc, v5, n5, sl5, SH5, FI5, FL5, FR5, hd, h⟩ := h
        rw [hW2, c45] at h3
        exact op_un hS hp ht hc hd h (by rw [hk.1, h3]; decide) (by decide)
      · obtain ⟨v4, n4, sl4, SH4, FI4, FL4, FR4, hc, v5, n5, sl5, SH5, FI5, FL5, FR5, hd, h⟩ := h
        rw [hW2, c45] at h3
        have h126 : W t = 126 := by omega
        exact op_un hS hp ht hc hd h (by rw [hk.1, h126]; decide) (by decide)
  · rw [tk_word hp.1 (by decide : ((7 : Int32)).toInt = 7)] at h1
    have hk : K t = 2 ∧ W t = 7 := Classical.byContradiction (fun hn => h1 hn)
    obtain ⟨v4, n4, sl4, SH4, FI4, FL4, FR4, hc, v5, n5, sl5, SH5, FI5, FL5, FR5, hd, h⟩ := h
    exact op_un hS hp ht hc hd h (by rw [hk.1, hk.2]; decide) (by decide)
/-- combined: + or - and a NUMBER alone -/
theorem p_comb {a1 : Int32} {x : Int64} (h : RX12_combined a1 n sl SH FI FL FR x s) (hS : h_S n SH) (ha : a1.toInt = t) (hp : p_vw K W o0 FI FL t S o B) (hg : tk_rg K W) : p_vw K W o0 s.2.2.2.1 s.2.2.2.2.1 (if (decide (f_top S < 6) && lc_ad K W t) = true then t + 2 else t) S o B ∧ x.toInt = (if (decide (f_top S < 6) && lc_ad K W t) = true then lc_sg K W t else 0) := by
  have c6 : ((6 : Int32)).toInt = 6 := by decide
  have c0 : ((0 : Int64)).toInt = 0 := by decide
  have c43 : ((43 : Int64)).toInt = 43 := by decide
  have ht2 := hp.1.2.2.2
  have ha1 : (a1 + (1 : Int32)).toInt = ((t + 1 : Nat) : Int) := by
    rw [i_add ha (by decide : ((1 : Int32)).toInt = 1) (by omega) (by omega)]; omega
  rcases h with ⟨h1, h⟩ | ⟨h1, h⟩
  · rw [r_tops hp.2.2.1, c6] at h1
    rcases h with ⟨h2, h⟩ | ⟨h2, h⟩
    · exact absurd h2 (by decide)
    · rcases h with ⟨h3, h⟩ | ⟨h3, h⟩
      · rw [tk_adds hp.1 ha] at h3
        obtain ⟨rfl, rfl⟩ := h
        have e : lc_ad K W t = false := by
          unfold lc_ad
          rw [decide_eq_false h3, Bool.false_and]
        rw [e, Bool.and_false]
        exact ⟨hp, c0⟩
      · rw [tk_adds hp.1 ha] at h3
        have h3' : K t = 5 ∧ (W t = 43 ∨ W t = 45) := Classical.byContradiction (fun hn => h3 hn)
        rcases h with ⟨h4, h⟩ | ⟨h4, h⟩
        · rw [tk_alone hp.1 ha1 (by omega)] at h4
          obtain ⟨rfl, rfl⟩ := h
          have e : lc_ad K W t = false := by
            unfold lc_ad
            rw [h4, Bool.and_false]
          rw [e, Bool.and_false]
          exact ⟨hp, c0⟩
        · rw [tk_alone hp.1 ha1 (by omega)] at h4
          have h4' : lc_al K W (t + 1) = true := by
            cases e : lc_al K W (t + 1) with
            | true => rfl
            | false => exact absurd e h4
          have e : lc_ad K W t = true := by
            unfold lc_ad
            rw [decide_eq_true h3', h4']
            rfl
          have hal : K (t + 1) = 3 ∧ au_bn (K (t + 1 + 1)) (W (t + 1 + 1)) ≠ 7 := by simpa [lc_al] using h4'
          have hr := (hg (t + 1)).1 hal.1
          rw [e, decide_eq_true h1]
          simp only [Bool.and_self, if_true]
          obtain ⟨hpin, h⟩ := h
          have ht := tk_lt2 hS hpin ha
          have hW : (FL 150 a1.toInt.toNat).toInt = W t := by rw [show a1.toInt.toNat = t by omega, tk_W hp.1]
          have hW1 : (FL 150 (a1 + (1 : Int32)).toInt.toNat).toInt = W (t + 1) := by rw [show (a1 + (1 : Int32)).toInt.toNat = t + 1 by omega, tk_W hp.1]
          have hx2 : (a1 + (2 : Int32)).toInt = ((t + 2 : Nat) : Int) := by
            rw [i_add ha (by decide : ((2 : Int32)).toInt = 2) (by omega) (by omega)]; omega
          rcases h with ⟨h5, h⟩ | ⟨h5, h⟩
          · obtain ⟨-, rfl, rfl⟩ := h
            rw [hW, c43] at h5
            exact ⟨p_ti hp hx2 (by omega), by rw [hW1, lc_sg, if_pos h5]⟩
          · obtain ⟨-, rfl, rfl⟩ := h
            rw [hW, c43] at h5
            refine ⟨p_ti hp hx2 (by omega), ?_⟩
            rw [lc_sg, if_neg h5, Int64.toInt_neg, hW1, l_bm (by omega) (by omega)]
  · rw [r_tops hp.2.2.1, c6] at h1
    rw [decide_eq_false h1, Bool.false_and]
    rcases h with ⟨h2, h⟩ | ⟨h2, h⟩
    · obtain ⟨rfl, rfl⟩ := h
      exact ⟨hp, c0⟩
    · exact absurd (show ((0 : Int32)).toInt = 0 by decide) h2
/-- the number behind % r and fb, and what waits -/
theorem p_bsf {a1 : Int32} {x : Int64} {v1 : Unit} {n1 sl1 n2 sl2 : Nat} {SH1 SH2 : Nat → Nat × Nat} {FI1 FI2 : Nat → Nat → Int32} {FL1 FL2 : Nat → Nat → Int64} {FR1 FR2 : Nat → Nat → Option Nat} (hS : h_S n SH) (h1 : RX12_combined a1 n sl SH FI FL FR x (n1, sl1, SH1, FI1, FL1, FR1)) (h2 : RX12_signed x n1 sl1 SH1 FI1 FL1 FR1 v1 (n2, sl2, SH2, FI2, FL2, FR2)) (ha : a1.toInt = t) (hp : p_vw K W o0 FI FL t S o B) (hg : tk_rg K W) : p_vw K W o0 FI2 FL2 (if (decide (f_top S < 6) && lc_ad K W t) = true then t + 2 else t) S o (B ++ lc_s 9 (if (decide (f_top S < 6) && lc_ad K W t) = true then lc_sg K W t else 0)) := by
  obtain ⟨q1, q2⟩ := p_comb h1 hS ha hp hg
  have he := em_signed h2
  rw [q2] at he
  exact p_em (a := (n1, sl1, SH1, FI1, FL1, FR1)) (b := (n2, sl2, SH2, FI2, FL2, FR2)) q1 (kX12_signed h2) he (by decide)
end OD
end
section
/-! operand. -/
section OP
variable {K W : Nat → Int} {o0 : Int} {n sl : Nat} {SH : Nat → Nat × Nat} {FI : Nat → Nat → Int32} {FL : Nat → Nat → Int64} {FR : Nat → Nat → Option Nat} {t : Nat} {S : List f_E} {o : Int} {B : List Int} {s : hS}
theorem q_at {v : Int32} {v2 : Unit} {t1 : Nat} {c : List Int} {n2 sl2 : Nat} {SH2 : Nat → Nat × Nat} {FI2 : Nat → Nat → Int32} {FL2 : Nat → Nat → Int64} {FR2 : Nat → Nat → Option Nat} (hf : RX12_finished n sl SH FI FL FR v2 (n2, sl2, SH2, FI2, FL2, FR2)) (hv : P_ret (1 : Int32) (n2, sl2, SH2, FI2, FL2, FR2) v s) (hp : p_vw K W o0 FI FL t1 S o (B ++ c)) : q_opd K W o0 s v (some (t1, false, f_fin S o (B ++ c))) := by
  obtain ⟨rfl, rfl⟩ := hv
  obtain ⟨q1, q2⟩ := p_fin hf hp
  exact ⟨q1, fun _ => q2, by constructor; (intro h; exact absurd h (by decide)); (intro h; exact Bool.noConfusion h)⟩
theorem f_opd_at {K W : Nat → Int} {t : Nat} {S : List f_E} {o : Int} {B : List Int} {t1 : Nat} {c : List Int} (h1 : ¬ lc_uy (K t) (W t) = true) (h2 : ¬ (K t = 5 ∧ W t = 40)) (h : lc_at K W (decide (f_top S < 6)) t = some (t1, c)) : f_opd K W t S o B = some (t1, false, f_fin S o (B ++ c)) := by
  unfold f_opd
  rw [if_neg h1, if_neg h2, h]
theorem op_reg {v : Unit} (h : RX12_registered n sl SH FI FL FR v s) (hS : h_S n SH) (hp : p_vw K W o0 FI FL t S o B) (hg : tk_rg K W) : if K (t + 1) = 3 ∧ W (t + 1) ≤ 31 then p_vw K W o0 s.2.2.2.1 s.2.2.2.2.1 (if (decide (f_top S < 6) && lc_ad K W (t + 2)) = true then t + 2 + 2 else t + 2) S o (B ++ (112 + W (t + 1)) :: lc_s 9 (if (decide (f_top S < 6) && lc_ad K W (t + 2)) = true then lc_sg K W (t + 2) else 0)) else (s.2.2.2.1 121 69).toInt ≠ 0 := by
  have c3 : ((3 : Int32)).toInt = 3 := by decide
  have c31 : ((31 : Int64)).toInt = 31 := by decide
  obtain ⟨hp0, h⟩ := h
  have ht1 := tk_lt hS hp0 (tk_n1 hp.1)
  have hK : (FI 149 ((FI 121 68) + ((1 : Int32))).toInt.toNat).toInt = K (t + 1) := by rw [tk_i1 hp.1, tk_K hp.1]
  have hW : (FL 150 ((FI 121 68) + ((1 : Int32))).toInt.toNat).toInt = W (t + 1) := by rw [tk_i1 hp.1, tk_W hp.1]
  rcases h with ⟨h1, h⟩ | ⟨h1, h⟩
  · rw [hK, c3] at h1
    have hr := (hg (t + 1)).1 h1
    obtain ⟨-, h⟩ := h
    rcases h with ⟨h2, h⟩ | ⟨h2, h⟩
    · rw [hW, c31] at h2
      rw [if_neg (by omega)]
      obtain ⟨v3, n3, sl3, SH3, FI3, FL3, FR3, hc, h⟩ := h
      exact (kX12_registered_52 h).2.2.2.2.2.2 (f_fault hc (by decide))
    · rw [hW, c31] at h2
      rw [if_pos ⟨h1, by omega⟩]
      have hp1 := p_ti hp (tk_n1 hp.1) (by omega)
      rcases h with ⟨h3, h⟩ | ⟨h3, h⟩
      · obtain ⟨-, v1, n1, sl1, SH1, FI1, FL1, FR1, hc, v3, n3, sl3, SH3, FI3, FL3, FR3, hd, v4, n4, sl4, SH4, FI4, FL4, FR4, he, h⟩ := h
        obtain ⟨-, rfl⟩ := h
        have hWt : (FL 150 ((h_up FI 121 68 ((FI 121 68) + ((1 : Int32)))) 121 68).toInt.toNat).toInt = W (t + 1) := by rw [tk_i hp1.1, tk_W hp1.1]
        have he1 := em_emit (b := 112 + W (t + 1)) hc (by
          rw [i_add (by decide : ((112 : Int32)).toInt = 112) (l_2i hWt (by omega) (by omega)) (by omega) (by omega)]
          omega)
        have hk1 := kX12_emit hc
        have hp2 := p_em (a := (n, sl, SH, _, FL, FR)) (b := (n1, sl1, SH1, FI1, FL1, FR1)) hp1 hk1 he1 (by decide)
        have hp3 := p_ti hp2 (tk_n1 hp2.1) (by omega)
        have hS1 : h_S n1 SH1 := by rw [show n1 = n from hk1.1, show SH1 = SH from hk1.2.2.1]; exact hS
        have q := p_bsf hS1 hd he (tk_n1 hp2.1) hp3 hg
        rw [List.append_assoc] at q
        exact q
      · exact absurd hp1.2.1 h3
  · rw [hK, c3] at h1
    rw [if_neg (by omega)]
    obtain ⟨v3, n3, sl3, SH3, FI3, FL3, FR3, hc, h⟩ := h
    exact (kX12_registered_52 h).2.2.2.2.2.2 (f_fault hc (by decide))
theorem op_262 {v : Int32} (h : RX12_operand_262 n sl SH FI FL FR v s) (hp : p_vw K W o0 FI FL t S o B) (ht : t < 1002) (hk : K t = 2 ∧ (W t = 5 ∨ W t = 6)) : q_opd K W o0 s v (some (t + 1, false, f_fin S o (B ++ [if W t = 5 then 156 else 151]))) := by
  rcases h with ⟨h1, h⟩ | ⟨h1, h⟩
  · rw [tk_word hp.1 (by decide : ((5 : Int32)).toInt = 5)] at h1
    obtain ⟨v2, n2, sl2, SH2, FI2, FL2, FR2, hc, v4, n4, sl4, SH4, FI4, FL4, FR4, hd, h⟩ := h
    have hp2 := p_em (a := (n, sl, SH, FI, FL, FR)) (b := (n2, sl2, SH2, FI2, FL2, FR2)) hp (kX12_emit hc) (em_emit (b := 151) hc (by decide)) (by decide)
    rw [if_neg (fun e => h1 ⟨hk.1, e⟩)]
    exact q_at hd h (p_ti hp2 (tk_n1 hp2.1) (by omega))
  · rw [tk_word hp.1 (by decide : ((5 : Int32)).toInt = 5)] at h1
    have h1' : K t = 2 ∧ W t = 5 := Classical.byContradiction (fun hn => h1 hn)
    obtain ⟨v2, n2, sl2, SH2, FI2, FL2, FR2, hc, v4, n4, sl4, SH4, FI4, FL4, FR4, hd, h⟩ := h
    have hp2 := p_em (a := (n, sl, SH, FI, FL, FR)) (b := (n2, sl2, SH2, FI2, FL2, FR2)) hp (kX12_emit hc) (em_emit (b := 156) hc (by decide)) (by decide)
    rw [if_pos h1'.2]
    exact q_at hd h (p_ti hp2 (tk_n1 hp2.1) (by omega))
theorem op_operand {v : Int32} (h : RX12_operand n sl SH FI FL FR v s) (hS : h_S n SH) (hp : p_vw K W o0 FI FL t S o B) (hg : tk_rg K W) : q_opd K W o0 s v (f_opd K W t S o B) := by
  have c4 : ((4 : Int32)).toInt = 4 := by decide
  have c3 : ((3 : Int32)).toInt = 3 := by decide
  have em1 : ((-1 : Int32)).toInt = -1 := by decide
  have hK : (FI 149 (FI 121 68).toInt.toNat).toInt = K t := by rw [tk_i hp.1, tk_K hp.1]
  have hW : (FL 150 (FI 121 68).toInt.toNat).toInt = W t := by rw [tk_i hp.1, tk_W hp.1]
  have un : ∀ (hu : lc_uy (K t) (W t) = true), RX12_operand_40 n sl SH FI FL FR v s → q_opd K W o0 s v (f_opd K W t S o B) := by
    intro hu h
    unfold f_opd
    rw [if_pos hu]
    exact op_40 h hS hp hg hu
  rcases h with ⟨h1, h⟩ | ⟨h1, h⟩
  · rw [tk_sign hp.1 (by decide : ((45 : Int32)).toInt = 45)] at h1
    rcases h with ⟨h2, h⟩ | ⟨h2, h⟩
    · rw [tk_sign hp.1 (by decide : ((126 : Int32)).toInt = 126)] at h2
      obtain ⟨hp0, h⟩ := h
      have ht := tk_lt hS hp0 (tk_n hp.1)
      rcases h with ⟨h3, h⟩ | ⟨h3, h⟩
      · rw [hK, c4] at h3
        exact un (by simp [lc_uy, h3]) h
      · rw [hK, c4] at h3
        rcases h with ⟨h4, h⟩ | ⟨h4, h⟩
        · rw [tk_word hp.1 (by decide : ((7 : Int32)).toInt = 7)] at h4
          have hu : ¬ lc_uy (K t) (W t) = true := by
            unfold lc_uy
            simp only [decide_eq_true_eq]
            omega
          rcases h with ⟨h5, h⟩ | ⟨h5, h⟩
          · rw [tk_sign hp.1 (by decide : ((40 : Int32)).toInt = 40)] at h5
            obtain ⟨-, h⟩ := h
            rcases h with ⟨h6, h⟩ | ⟨h6, h⟩
            · rw [hK, c3] at h6
              have hr := (hg t).1 h6
              obtain ⟨-, v1, n1, sl1, SH1, FI1, FL1, FR1, hc, v2, n2, sl2, SH2, FI2, FL2, FR2, hd, h⟩ := h
              have he := em_push hc (by rw [hW]; omega)
              rw [hW] at he
              have hp2 := p_em (a := (n, sl, SH, FI, FL, FR)) (b := (n1, sl1, SH1, FI1, FL1, FR1)) hp (kX12_push hc) he (by decide)
              rw [f_opd_at hu h5 (by unfold lc_at; rw [if_pos h6])]
              exact q_at hd h (p_ti hp2 (tk_n1 hp2.1) (by omega))
            · rw [hK, c3] at h6
              rcases h with ⟨h7, h⟩ | ⟨h7, h⟩
              · rw [tk_sign hp.1 (by decide : ((37 : Int32)).toInt = 37)] at h7
                rcases h with ⟨h8, h⟩ | ⟨h8, h⟩
                · rw [tk_word hp.1 (by decide : ((4 : Int32)).toInt = 4)] at h8
                  have hbs : lc_bs K W t = none := by unfold lc_bs; rw [if_neg h7, if_neg h8]
                  rcases h with ⟨h9, h⟩ | ⟨h9, h⟩
                  · rw [tk_word hp.1 (by decide : ((5 : Int32)).toInt = 5)] at h9
                    rcases h with ⟨h10, h⟩ | ⟨h10, h⟩
                    · rw [tk_word hp.1 (by decide : ((6 : Int32)).toInt = 6)] at h10
                      obtain ⟨v1, n1, sl1, SH1, FI1, FL1, FR1, hc, h⟩ := h
                      obtain ⟨-, rfl⟩ := h
                      have e : f_opd K W t S o B = none := by
                        unfold f_opd
                        rw [if_neg hu, if_neg h5]
                        unfold lc_at
                        rw [if_neg h6, if_neg h9, if_neg h10, hbs]
                      rw [e]
                      exact f_fault hc (by decide)
                    · rw [tk_word hp.1 (by decide : ((6 : Int32)).toInt = 6)] at h10
                      have h10' : K t = 2 ∧ W t = 6 := Classical.byContradiction (fun hn => h10 hn)
                      have q := op_262 h hp ht ⟨h10'.1, Or.inr h10'.2⟩
                      rw [if_neg (fun e => h9 ⟨h10'.1, e⟩)] at q
                      rw [f_opd_at hu h5 (by unfold lc_at; rw [if_neg h6, if_neg h9, if_pos h10'])]
                      exact q
                  · rw [tk_word hp.1 (by decide : ((5 : Int32)).toInt = 5)] at h9
                    have h9' : K t = 2 ∧ W t = 5 := Classical.byContradiction (fun hn => h9 hn)
                    have q := op_262 h hp ht ⟨h9'.1, Or.inl h9'.2⟩
                    rw [if_pos h9'.2] at q
                    rw [f_opd_at hu h5 (by unfold lc_at; rw [if_neg h6, if_pos h9'])]
                    exact q
                · rw [tk_word hp.1 (by decide : ((4 : Int32)).toInt = 4)] at h8
                  have h8' : K t = 2 ∧ W t = 4 := Classical.byContradiction (fun hn => h8 hn)
                  obtain ⟨v1, n1, sl1, SH1, FI1, FL1, FR1, hc, v2, n2, sl2, SH2, FI2, FL2, FR2, hd, v3, n3, sl3, SH3, FI3, FL3, FR3, he, v4, n4, sl4, SH4, FI4, FL4, FR4, hf, h⟩ := h
                  have hk1 := kX12_emit hc
                  have hp2 := p_em (a := (n, sl, SH, FI, FL, FR)) (b := (n1, sl1, SH1, FI1, FL1, FR1)) hp hk1 (em_emit (b := 145) hc (by decide)) (by decide)
                  have hp3 := p_ti hp2 (tk_n1 hp2.1) (by omega)
                  have hS1 : h_S n1 SH1 := by rw [show n1 = n from hk1.1, show SH1 = SH from hk1.2.2.1]; exact hS
                  have q := p_bsf hS1 hd he (tk_n1 hp.1) hp3 hg
                  rw [List.append_assoc] at q
                  have e : lc_at K W (decide (f_top S < 6)) t = some ((if (decide (f_top S < 6) && lc_ad K W (t + 1)) = true then t + 1 + 2 else t + 1), 145 :: lc_s 9 (if (decide (f_top S < 6) && lc_ad K W (t + 1)) = true then lc_sg K W (t + 1) else 0)) := by
                    unfold lc_at
                    rw [if_neg h6, if_neg (by omega), if_neg (by omega)]
                    have hbs : lc_bs K W t = some (t + 1, 145) := by unfold lc_bs; rw [if_neg h7, if_pos h8']
                    rw [hbs]
                    dsimp only
                    split <;> rfl
                  rw [f_opd_at hu h5 e]
                  exact q_at hf h q
              · rw [tk_sign hp.1 (by decide : ((37 : Int32)).toInt = 37)] at h7
                have h7' : K t = 5 ∧ W t = 37 := Classical.byContradiction (fun hn => h7 hn)
                obtain ⟨v1, n1, sl1, SH1, FI1, FL1, FR1, hc, v2, n2, sl2, SH2, FI2, FL2, FR2, hd, h⟩ := h
                have q := op_reg hc hS hp hg
                by_cases hok : K (t + 1) = 3 ∧ W (t + 1) ≤ 31
                · rw [if_pos hok] at q
                  have e : lc_at K W (decide (f_top S < 6)) t = some ((if (decide (f_top S < 6) && lc_ad K W (t + 2)) = true then t + 2 + 2 else t + 2), (112 + W (t + 1)) :: lc_s 9 (if (decide (f_top S < 6) && lc_ad K W (t + 2)) = true then lc_sg K W (t + 2) else 0)) := by
                    unfold lc_at
                    rw [if_neg h6, if_neg (by omega), if_neg (by omega)]
                    have hbs : lc_bs K W t = some (t + 2, 112 + W (t + 1)) := by unfold lc_bs; rw [if_pos h7', if_pos hok]
                    rw [hbs]
                    dsimp only
                    split <;> rfl
                  rw [f_opd_at hu h5 e]
                  exact q_at hd h q
                · rw [if_neg hok] at q
                  have e : f_opd K W t S o B = none := by
                    unfold f_opd
                    rw [if_neg hu, if_neg h5]
                    unfold lc_at
                    rw [if_neg h6, if_neg (by omega), if_neg (by omega)]
                    have hbs : lc_bs K W t = none := by unfold lc_bs; rw [if_pos h7', if_neg hok]
                    rw [hbs]
                  rw [e]
                  obtain ⟨-, rfl⟩ := h
                  exact (kX12_finished hd).2.2.2.2.2.2 q
          · rw [tk_sign hp.1 (by decide : ((40 : Int32)).toInt = 40)] at h5
            have h5' : K t = 5 ∧ W t = 40 := Classical.byContradiction (fun hn => h5 hn)
            obtain ⟨v1, n1, sl1, SH1, FI1, FL1, FR1, hc, v2, n2, sl2, SH2, FI2, FL2, FR2, hd, h⟩ := h
            obtain ⟨rfl, rfl⟩ := h
            unfold f_opd
            rw [if_neg hu, if_pos h5']
            rcases p_openlater (y := []) hS hc hd hp ht (Or.inr em1) (fun h => absurd h (by rw [em1]; decide)) with ⟨g1, g2⟩ | ⟨g1, g2⟩
            · rw [if_pos g1]
              exact g2
            · rw [if_neg g1]
              rw [em1] at g2
              exact ⟨g2, fun h => (Bool.noConfusion h), by simp⟩
        · rw [tk_word hp.1 (by decide : ((7 : Int32)).toInt = 7)] at h4
          have h4' : K t = 2 ∧ W t = 7 := Classical.byContradiction (fun hn => h4 hn)
          exact un (by simp [lc_uy, h4'.1, h4'.2]) h
    · rw [tk_sign hp.1 (by decide : ((126 : Int32)).toInt = 126)] at h2
      have h2' : K t = 5 ∧ W t = 126 := Classical.byContradiction (fun hn => h2 hn)
      exact un (by simp [lc_uy, h2'.1, h2'.2]) h
  · rw [tk_sign hp.1 (by decide : ((45 : Int32)).toInt = 45)] at h1
    have h1' : K t = 5 ∧ W t = 45 := Classical.byContradiction (fun hn => h1 hn)
    exact un (by simp [lc_uy, h1'.1, h1'.2]) h
end OP
end
section
/-! operator. -/
def q_opr (K W : Nat → Int) (o0 : Int) (s : hS) (v : Int32) (r : Option (f_St ⊕ (Nat × Int × List Int))) : Prop := match r with
  | none => (s.2.2.2.1 121 69).toInt ≠ 0
  | some (.inl (t1, w, S1, o1, B1)) => v.toInt ≠ 0 ∧ p_vw K W o0 s.2.2.2.1 s.2.2.2.2.1 t1 S1 o1 B1 ∧ (w = false → f_top S1 ≠ 9) ∧ ((s.2.2.2.1 121 91).toInt = 0 ↔ w = true)
  | some (.inr (t1, o1, B1)) => v.toInt = 0 ∧ p_vw K W o0 s.2.2.2.1 s.2.2.2.2.1 t1 [] o1 B1
section OR
variable {K W : Nat → Int} {o0 : Int} {n sl : Nat} {SH : Nat → Nat × Nat} {FI : Nat → Nat → Int32} {FL : Nat → Nat → Int64} {FR : Nat → Nat → Option Nat} {t : Nat} {S : List f_E} {o : Int} {B : List Int} {s : hS}
theorem f_pop_pop {a b : Int} (hab : a ≤ b) : ∀ (S : List f_E) (B : List Int), f_pop a (f_pop b S B).1 (f_pop b S B).2 = f_pop a S B
  | [], _ => rfl
  | e :: S, B => by
    by_cases h : b ≤ e.1
    · have e1 : f_pop b (e :: S) B = f_pop b S (B ++ e.2.1) := by simp only [f_pop, if_pos h]
      have e2 : f_pop a (e :: S) B = f_pop a S (B ++ e.2.1) := by simp only [f_pop, if_pos (show a ≤ e.1 by omega)]
      rw [e1, e2]
      exact f_pop_pop hab S _
    · have e1 : f_pop b (e :: S) B = (e :: S, B) := by simp only [f_pop, if_neg h]
      rw [e1]
/-- later: a sign between two waits -/
theorem p_later {c b : Int32} {v : Unit} (hS : h_S n SH) (h : RX12_later c b n sl SH FI FL FR v s) (hp : p_vw K W o0 FI FL t S o B) (h9 : f_top S ≠ 9) (hb : 1 ≤ b.toInt ∧ b.toInt ≤ 7) (hc : 0 ≤ c.toInt ∧ c.toInt < 256) : p_vw K W o0 s.2.2.2.1 s.2.2.2.2.1 t ((b.toInt, [c.toInt], 0, 0) :: S) o B := by
  have hk := kX12_later h
  obtain ⟨g3, g4, -, rfl⟩ := h
  have hlt : S.length < 256 := by
    have e := r_vw_n hp.2.2.1
    have g5 := g3.2
    rw [s165 hS] at g5
    have : (((256 : Nat)) : Int) = 256 := rfl
    omega
  have hq := r_push (c := c) (b := b) (p := 0) (q := 0) (y := [c.toInt]) hp.2.2.1 hlt (Or.inr (Or.inr ⟨hb.1, hb.2, h9⟩)) (fun _ => ⟨by rw [w_by, if_pos hc.2], hc.1, by omega, fun _ => hc.2⟩)
  refine ⟨⟨by rw [kq_cell hk (by decide)]; exact hp.1.1, hp.1.2.1, by rw [kq_fld hk (by decide)]; exact hp.1.2.2.1, hp.1.2.2.2⟩, by rw [kq_fld hk (by decide)]; exact hp.2.1, hq, ?_⟩
  obtain ⟨o1, o2, o3, o4⟩ := hp.2.2.2
  refine ⟨by rw [kq_fld hk (by decide)]; exact o1, ?_, o3, o4⟩
  rw [f_op, if_pos hb]
  omega
theorem p_binary {c b : Int32} {C : Int} {l : Int} {v : Int32} (hS : h_S n SH) (h : RX12_binary c b n sl SH FI FL FR v s) (hp : p_vw K W o0 FI FL t S o B) (ht : t < 1002) (h9 : f_top S ≠ 9) (hb : b.toInt = l) (hl : 1 ≤ l ∧ l ≤ 7) (hc : c.toInt = C) (hC : 0 ≤ C ∧ C < 256) : v = 1 ∧ p_vw K W o0 s.2.2.2.1 s.2.2.2.2.1 (t + 1) ((l, [C], 0, 0) :: (f_pop l S B).1) o (f_pop l S B).2 := by
  subst hb hc
  obtain ⟨v1, n1, sl1, SH1, FI1, FL1, FR1, hd, v2, n2, sl2, SH2, FI2, FL2, FR2, he, h⟩ := h
  obtain ⟨rfl, rfl⟩ := h
  have hk1 := kX12_reduced hd
  obtain ⟨q1, q2, q3⟩ := p_red hd rfl hl.1 hp h9
  have hS1 : h_S n1 SH1 := by rw [show n1 = n from hk1.1, show SH1 = SH from hk1.2.2.1]; exact hS
  have q4 := p_later hS1 he q1 q2 hl hC
  exact ⟨rfl, p_ti q4 (tk_n1 q4.1) (by omega)⟩
theorem q_bin {c b : Int32} {C : Int} {v v2 : Int32} {n2 sl2 : Nat} {SH2 : Nat → Nat × Nat} {FI2 : Nat → Nat → Int32} {FL2 : Nat → Nat → Int64} {FR2 : Nat → Nat → Option Nat} (hS : h_S n SH) (h : RX12_binary c b n sl SH (h_up FI 121 91 0) FL FR v2 (n2, sl2, SH2, FI2, FL2, FR2)) (h2 : P_ret v2 (n2, sl2, SH2, FI2, FL2, FR2) v s) (hp : p_vw K W o0 FI FL t S o B) (ht : t < 1002) (h9 : f_top S ≠ 9) (hb : b.toInt = au_bn (K t) (W t)) (hl : 1 ≤ au_bn (K t) (W t)) (hc : c.toInt = C) (hC : 0 ≤ C ∧ C < 256) : q_opr K W o0 s v (some (.inl (t + 1, true, (au_bn (K t) (W t), [C], 0, 0) :: (f_pop (au_bn (K t) (W t)) S B).1, o, (f_pop (au_bn (K t) (W t)) S B).2))) := by
  have hp1 := p_fl (k := 91) (x := 0) hp (by decide) (by decide) (by decide) (by decide) (by decide)
  have hr := au_bn_rg (K t) (W t)
  obtain ⟨e1, q⟩ := p_binary hS h hp1 ht h9 hb ⟨hl, hr.2⟩ hc hC
  obtain ⟨rfl, rfl⟩ := h2
  subst e1
  have hk := kX12_binary h
  refine ⟨by decide, q, fun h => Bool.noConfusion h, ?_⟩
  rw [kq_fld hk (by decide)]
  show (h_up FI 121 91 0 121 91).toInt = 0 ↔ _
  rw [h_up_eq]
  simp
theorem f_opr_bin {K W : Nat → Int} {t : Nat} {S : List f_E} {o : Int} {B : List Int} (h1 : au_bn (K t) (W t) ≠ 0) (h6 : au_bn (K t) (W t) ≠ 6) (h4 : au_bn (K t) (W t) ≠ 4) : f_opr K W t S o B = some (.inl (t + 1, true, (au_bn (K t) (W t), [lc_op (K t) (W t)], 0, 0) :: (f_pop (au_bn (K t) (W t)) S B).1, o, (f_pop (au_bn (K t) (W t)) S B).2)) := by
  unfold f_opr
  rw [if_neg h1, if_neg (by simp [h6]), if_neg (fun h => h4 h.1)]
theorem lc_op_rg {k w : Int} : 0 ≤ lc_op k w ∧ lc_op k w < 256 := by
  unfold lc_op
  repeat' split
  all_goals omega
theorem op_added {v : Int32} {v2 : Int32} {n2 sl2 : Nat} {SH2 : Nat → Nat × Nat} {FI2 : Nat → Nat → Int32} {FL2 : Nat → Nat → Int64} {FR2 : Nat → Nat → Option Nat} (hS : h_S n SH) (h : RX12_added n sl SH (h_up FI 121 91 0) FL FR v2 (n2, sl2, SH2, FI2, FL2, FR2)) (h2 : P_ret v2 (n2, sl2, SH2, FI2, FL2, FR2) v s) (hp : p_vw K W o0 FI FL t S o B) (hg : tk_rg K W) (ht : t < 1002) (h9 : f_top S ≠ 9) (hb : au_bn (K t) (W t) = 6) : q_opr K W o0 s v (f_opr K W t S o B) := by
  have c6 : ((6 : Int32)).toInt = 6 := by decide
  have hp1 := p_fl (k := 91) (x := 0) hp (by decide) (by decide) (by decide) (by decide) (by decide)
  have hkw := au_bn_6.mp hb
  obtain ⟨rfl, e2⟩ := h2
  rw [← e2] at h
  clear e2
  obtain ⟨v1, n1, sl1, SH1, FI1, FL1, FR1, hd, h⟩ := h
  have hk1 := kX12_reduced hd
  have hS1 : h_S n1 SH1 := by rw [show n1 = n from hk1.1, show SH1 = SH from hk1.2.2.1]; exact hS
  obtain ⟨q1, q2, q3⟩ := p_red hd c6 (by decide) hp1 h9
  have q4 := p_ti q1 (tk_n1 q1.1) (by omega)
  have h91 : (FI1 121 91).toInt = 0 := by
    rw [show FI1 121 91 = _ from kq_fld hk1 (by decide)]
    show (h_up FI 121 91 0 121 91).toInt = 0
    rw [h_up_eq]; decide
  unfold f_opr
  rw [if_neg (by omega)]
  have go75 : ∀ l1 : Int32, RX12_added_75 l1 n1 sl1 SH1 (h_up FI1 121 68 ((FI1 121 68) + ((1 : Int32)))) FL1 FR1 v s → (l1.toInt = 0 ↔ ¬ W t = 43) → ¬ (decide (au_bn (K t) (W t) = 6 ∧ W t = 43) && lc_al K W (t + 1)) = true → q_opr K W o0 s v (if (decide (au_bn (K t) (W t) = 6 ∧ W t = 43) && lc_al K W (t + 1)) = true then some (.inl (t + 2, false, (f_pop 6 S B).1, o, (f_pop 6 S B).2 ++ 35 :: lc_u 9 (W (t + 1)))) else if au_bn (K t) (W t) = 4 ∧ f_top (f_pop 5 S B).1 = 4 then none else some (.inl (t + 1, true, (au_bn (K t) (W t), [lc_op (K t) (W t)], 0, 0) :: (f_pop (au_bn (K t) (W t)) S B).1, o, (f_pop (au_bn (K t) (W t)) S B).2))) := by
    intro l1 h hl hno
    rw [if_neg hno, if_neg (by omega), hb]
    have hq91 : ((h_up FI1 121 68 ((FI1 121 68) + ((1 : Int32)))) 121 91).toInt = 0 := by rw [h_up_x (by decide)]; exact h91
    rcases h with ⟨h5, h⟩ | ⟨h5, h⟩
    · obtain ⟨v3, n3, sl3, SH3, FI3, FL3, FR3, he, h⟩ := h
      obtain ⟨rfl, rfl⟩ := h
      have e : lc_op (K t) (W t) = 28 := by
        have h43 := hl.mp h5
        have h45 : W t = 45 := by omega
        rw [hkw.1, h45]; decide
      have q5 := p_later hS1 he q4 q2 (by rw [c6]; decide) (by decide)
      rw [c6] at q5
      rw [e]
      refine ⟨by decide, q5, fun h => Bool.noConfusion h, ?_⟩
      rw [kq_fld (kX12_later he) (by decide)]
      exact ⟨fun _ => rfl, fun _ => hq91⟩
    · obtain ⟨v3, n3, sl3, SH3, FI3, FL3, FR3, he, h⟩ := h
      obtain ⟨rfl, rfl⟩ := h
      have e : lc_op (K t) (W t) = 34 := by
        have h43 : W t = 43 := Classical.byContradiction (fun hn => h5 (hl.mpr hn))
        rw [hkw.1, h43]; decide
      have q5 := p_later hS1 he q4 q2 (by rw [c6]; decide) (by decide)
      rw [c6] at q5
      rw [e]
      refine ⟨by decide, q5, fun h => Bool.noConfusion h, ?_⟩
      rw [kq_fld (kX12_later he) (by decide)]
      exact ⟨fun _ => rfl, fun _ => hq91⟩
  have hsg := tk_sign (SH := SH) (FR := FR) hp1.1 (by decide : ((43 : Int32)).toInt = 43)
  rcases h with ⟨h3, h⟩ | ⟨h3, h⟩
  · have h3' := hsg.mp h3
    have h43 : ¬ W t = 43 := fun e => h3' ⟨hkw.1, e⟩
    exact go75 _ h ⟨fun _ => h43, fun _ => h3⟩ (by simp [h43])
  · have h43 : W t = 43 := (Classical.byContradiction (fun hn : ¬ (K t = 5 ∧ W t = 43) => h3 (hsg.mpr hn))).2
    rcases h with ⟨h4, h⟩ | ⟨h4, h⟩
    · rw [tk_alone q4.1 (tk_n1 q1.1) (by omega)] at h4
      exact go75 _ h ⟨fun h => absurd h h3, fun h => absurd h43 h⟩ (by simp [h4])
    · rw [tk_alone q4.1 (tk_n1 q1.1) (by omega)] at h4
      have h4' : lc_al K W (t + 1) = true := by
        cases e : lc_al K W (t + 1) with
        | true => rfl
        | false => exact absurd e h4
      have hal : K (t + 1) = 3 ∧ au_bn (K (t + 1 + 1)) (W (t + 1 + 1)) ≠ 7 := by simpa [lc_al] using h4'
      have hr := (hg (t + 1)).1 hal.1
      rw [if_pos (by rw [Bool.and_eq_true]; exact ⟨decide_eq_true ⟨hb, h43⟩, h4'⟩)]
      obtain ⟨v6, n6, sl6, SH6, FI6, FL6, FR6, he, hpin, v7, n7, sl7, SH7, FI7, FL7, FR7, hf, h⟩ := h
      obtain ⟨rfl, rfl⟩ := h
      have hk6 := kX12_emit he
      have q5 := p_em (a := (n1, sl1, SH1, _, FL1, FR1)) (b := (n6, sl6, SH6, FI6, FL6, FR6)) q4 hk6 (em_emit (b := 35) he (by decide)) (by decide)
      have hS6 : h_S n6 SH6 := by rw [show n6 = n1 from hk6.1, show SH6 = SH1 from hk6.2.2.1]; exact hS1
      have ht1 := tk_lt2 hS6 hpin (tk_n q5.1)
      have hW : (FL6 150 (FI6 121 68).toInt.toNat).toInt = W (t + 1) := by rw [tk_i q5.1, tk_W q5.1]
      have he7 := em_unsigned hf (by rw [hW]; omega)
      rw [hW] at he7
      have q6 := p_em (a := (n6, sl6, SH6, FI6, FL6, FR6)) (b := (n7, sl7, SH7, FI7, FL7, FR7)) q5 (kX12_unsigned hf) he7 (by decide)
      have q7 := p_ti q6 (tk_n1 q6.1) (by omega)
      have q8 := p_fl (k := 91) (x := 1) q7 (by decide) (by decide) (by decide) (by decide) (by decide)
      rw [List.append_assoc] at q8
      refine ⟨by decide, q8, fun _ => q2, ?_⟩
      try dsimp only
      rw [h_up_eq]
      exact ⟨fun h => absurd h (by decide), fun h => Bool.noConfusion h⟩
/-- ? : the choice's first part stands, its jump is left open -/
theorem r_ask {FI : Nat → Nat → Int32} {S : List f_E} {B : List Int} {c : Int32} {p : Nat} (h : r_vw FI S B) (hl : S.length < 256) (h9 : f_top S ≠ 9) (hp : p + 2 ≤ B.length) : r_vw (h_up (h_up (h_up (h_up FI 165 (FI 121 90).toInt.toNat c) 166 (FI 121 90).toInt.toNat (-2)) 121 90 (FI 121 90 + 1)) 167 ((FI 121 90 + 1) - 1).toInt.toNat (Int32.ofNat p)) ((-2, [], p, 0) :: S) B := by
  have hn := r_vw_n h
  have hi : (FI 121 90).toInt.toNat = S.length := by omega
  have hi2 : ((FI 121 90 + 1) - 1).toInt.toNat = S.length := by
    rw [i_sub (i_add hn (by decide : ((1 : Int32)).toInt = 1) (by omega) (by omega)) (by decide : ((1 : Int32)).toInt = 1) (by omega) (by omega)]
    omega
  rw [hi, hi2]
  refine ⟨?_, by rw [List.length_cons]; omega, ⟨⟨?_, ?_, ?_, ?_⟩, ?_⟩, ⟨fun _ _ => h9, h.2.2.2.1⟩, ?_, ?_, e_vw_c (e_vw_f (e_vw_c (e_vw_c h.2.2.2.2.2.2 (by decide) (by decide)) (by decide) (by decide)) (by decide)) (by decide) (by decide)⟩
  · rw [h_up_x (by omega), h_up_eq, h.1, List.length_cons]
    exact (Int32.ofNat_add _ _).symm
  · rw [h_up_x (by omega), h_up_x (by omega), h_up_eq]
    exact (by decide : ((-2 : Int32)).toInt = -2)
  · intro h1
    exact absurd (show (1 : Int) ≤ -2 from h1) (by decide)
  · intro _
    rw [h_up_eq]
  · intro h1
    exact absurd (show (-2 : Int) = -3 from h1) (by decide)
  · exact w_vw_cg h.2.2.1 (fun c i h3 h4 h5 => by rw [h_up_x (by omega), h_up_x (by omega), h_up_x (by omega), h_up_x (by omega)])
  · intro e he
    rcases List.mem_cons.mp he with rfl | he
    · exact Or.inr (Or.inr (Or.inl rfl))
    · exact h.2.2.2.2.1 e he
  · intro e he
    rcases List.mem_cons.mp he with rfl | he
    · exact ⟨fun _ => hp, fun h1 => absurd (show (-2 : Int) = -3 from h1) (by decide)⟩
    · exact h.2.2.2.2.2.1 e he
end OR
end
section
/-! operator, to its end; chosen. -/
section OQ
variable {K W : Nat → Int} {o0 : Int} {n sl : Nat} {SH : Nat → Nat × Nat} {FI : Nat → Nat → Int32} {FL : Nat → Nat → Int64} {FR : Nat → Nat → Option Nat} {t : Nat} {S : List f_E} {o : Int} {B : List Int} {s : hS}
theorem op_ask {v : Int32} {v1 v2 v3 v4 v5 : Unit} {n1 sl1 n2 sl2 n3 sl3 n4 sl4 n5 sl5 : Nat} {SH1 SH2 SH3 SH4 SH5 : Nat → Nat × Nat} {FI1 FI2 FI3 FI4 FI5 : Nat → Nat → Int32} {FL1 FL2 FL3 FL4 FL5 : Nat → Nat → Int64} {FR1 FR2 FR3 FR4 FR5 : Nat → Nat → Option Nat} (hS : h_S n SH)
    (h1 : RX12_reduced 1 n sl SH (h_up FI 121 91 0) FL FR v1 (n1, sl1, SH1, FI1, FL1, FR1)) (h2 : RX12_emit 40 n1 sl1 SH1 FI1 FL1 FR1 v2 (n2, sl2, SH2, FI2, FL2, FR2)) (h3 : RX12_emits 0 2 n2 sl2 SH2 FI2 FL2 FR2 v3 (n3, sl3, SH3, FI3, FL3, FR3)) (h4 : RX12_opens n3 sl3 SH3 FI3 FL3 FR3 v4 (n4, sl4, SH4, FI4, FL4, FR4)) (h5 : RX12_later 0 (-2) n4 sl4 SH4 FI4 FL4 FR4 v5 (n5, sl5, SH5, FI5, FL5, FR5)) (h6 : P_ret (1 : Int32) (n5, sl5, SH5, (h_up FI5 167 ((FI5 121 90) - ((1 : Int32))).toInt.toNat (FI2 121 73)), FL5, FR5) v s)
    (hp : p_vw K W o0 FI FL t S o B) (ht : t < 1002) (h9 : f_top S ≠ 9) : q_opr K W o0 s v (if 12 ≤ o then none else some (.inl (t + 1, true, (-2, [], (f_pop 1 S B).2.length + 1, 0) :: (f_pop 1 S B).1, o + 1, (f_pop 1 S B).2 ++ [40, 0, 0]))) := by
  have hp1 := p_fl (k := 91) (x := 0) hp (by decide) (by decide) (by decide) (by decide) (by decide)
  obtain ⟨q1, q2, q3⟩ := p_red h1 (by decide : ((1 : Int32)).toInt = 1) (by decide) hp1 h9
  have k1 := kX12_reduced h1
  have k2 := kX12_emit h2
  have k3 := kX12_emits h3
  have k5 := kX12_later h5
  have q4 := p_em (a := (n1, sl1, SH1, FI1, FL1, FR1)) (b := (n2, sl2, SH2, FI2, FL2, FR2)) q1 k2 (em_emit (b := 40) h2 (by decide)) (by decide)
  have e2 := em_emits (m := 2) h3 (by decide) (by decide)
  have e02 : lc_by ((0 : Int64)).toInt 2 = [0, 0] := by decide
  rw [e02] at e2
  have q5 := p_em (a := (n2, sl2, SH2, FI2, FL2, FR2)) (b := (n3, sl3, SH3, FI3, FL3, FR3)) q4 k3 e2 (by decide)
  rw [List.append_assoc] at q5
  have h73 : FI2 121 73 = Int32.ofNat ((f_pop 1 S B).2.length + 1) := by
    refine (show FI2 121 73 = _ from q4.2.2.1.2.2.2.2.2.2.1).trans ?_
    rw [List.length_append]
    rfl
  have h91 : (FI3 121 91).toInt = 0 := by
    rw [show FI3 121 91 = FI2 121 91 from kq_fld k3 (by decide), show FI2 121 91 = FI1 121 91 from kq_fld k2 (by decide), show FI1 121 91 = (h_up FI 121 91 0) 121 91 from kq_fld k1 (by decide), h_up_eq]
    decide
  have ho := q5.2.2.2
  have hop := f_op_0 (f_pop 1 S B).1
  have hS4 : h_S n3 SH3 := by
    rw [show n3 = n2 from k3.1, show n2 = n1 from k2.1, show n1 = n from k1.1, show SH3 = SH2 from k3.2.2.1, show SH2 = SH1 from k2.2.2.1, show SH1 = SH from k1.2.2.1]
    exact hS
  obtain ⟨rfl, rfl⟩ := h6
  rcases p_opens h4 q5.1 (by omega) ho.1 ho.2.2.2 (by have := ho.2.1; have := ho.2.2.1; omega) with ⟨g1, g2⟩ | ⟨g1, g2⟩
  · rw [if_pos (by omega)]
    show ((h_up FI5 167 ((FI5 121 90) - ((1 : Int32))).toInt.toNat (FI2 121 73)) 121 69).toInt ≠ 0
    rw [h_up_nc (by decide), show FI5 121 69 = FI4 121 69 from kq_fld k5 (by decide)]
    exact g2
  · rw [if_neg (by omega)]
    cases g2
    obtain ⟨g3, g4, -, h5⟩ := h5
    cases h5
    have hr := r_fl (k := 68) (x := FI3 121 68 + 1) (r_fl (k := 71) (x := FI3 121 71 + 1) q5.2.2.1 (by decide) (by decide)) (by decide) (by decide)
    have hlt : (f_pop 1 S B).1.length < 256 := by
      have e := r_vw_n hr
      have g5 := g3.2
      dsimp only at e g5
      rw [s165 hS4] at g5
      have : (((256 : Nat)) : Int) = 256 := rfl
      omega
    have hq := r_ask (c := 0) (p := (f_pop 1 S B).2.length + 1) hr hlt q2 (by rw [List.length_append]; simp)
    have e90 : ∀ F : Nat → Nat → Int32, ∀ x : Int32, h_up F 121 90 x 121 90 = x := fun F x => h_up_eq
    refine ⟨by decide, ⟨⟨?_, q5.1.2.1, ?_, by omega⟩, ?_, ?_, ?_⟩, fun h => Bool.noConfusion h, ?_⟩
    · try dsimp only
      rw [h_up_nc (by decide), h_up_nc (by decide), h_up_nc (by decide), h_up_nc (by decide), h_up_nc (by decide), h_up_nc (by decide)]
      exact q5.1.1
    · try dsimp only
      rw [h_up_nc (by decide), h_up_x (by decide), h_up_nc (by decide), h_up_nc (by decide), h_up_eq]
      exact i_eqv (by rw [tk_n1 q5.1, i_lit (by omega)])
    · try dsimp only
      rw [h_up_nc (by decide), h_up_x (by decide), h_up_nc (by decide), h_up_nc (by decide), h_up_x (by decide), h_up_x (by decide)]
      exact q5.2.1
    · try dsimp only
      rw [e90, h73]
      exact hq
    · refine ⟨?_, ?_, ho.2.2.1, by omega⟩
      · try dsimp only
        rw [h_up_nc (by decide), h_up_x (by decide), h_up_nc (by decide), h_up_nc (by decide), h_up_x (by decide), h_up_eq]
        rw [i_add ho.1 (by decide : ((1 : Int32)).toInt = 1) (by have := ho.2.1; have := ho.2.2.1; omega) (by omega)]
      · rw [f_op, if_neg (by show ¬ ((1 : Int) ≤ -2 ∧ (-2 : Int) ≤ 7); decide)]
        have := ho.2.1
        omega
    · try dsimp only
      rw [h_up_nc (by decide), h_up_x (by decide), h_up_nc (by decide), h_up_nc (by decide), h_up_x (by decide), h_up_x (by decide)]
      exact ⟨fun _ => rfl, fun _ => h91⟩
theorem r_else {FI : Nat → Nat → Int32} {e : f_E} {S : List f_E} {B : List Int} (h : r_vw FI (e :: S) B) (h2 : e.1 = -2) : r_vw (h_up (h_up FI 168 ((FI 121 90) - ((1 : Int32))).toInt.toNat (FI 121 73)) 166 ((FI 121 90) - ((1 : Int32))).toInt.toNat (-3)) ((-3, [], e.2.2.1, B.length) :: S) B := by
  rw [r_ix h]
  have hw := h.2.2.1
  refine ⟨by rw [h_up_nc (by decide), h_up_nc (by decide)]; exact h.1, h.2.1, ⟨⟨?_, ?_, ?_, ?_⟩, ?_⟩, ⟨fun _ _ => h.2.2.2.1.1 (by omega) (by omega), h.2.2.2.1.2⟩, ?_, ?_, e_vw_c (e_vw_c h.2.2.2.2.2.2 (by decide) (by decide)) (by decide) (by decide)⟩
  · rw [h_up_eq]; exact (by decide : ((-3 : Int32)).toInt = -3)
  · intro h1
    exact absurd (show (1 : Int) ≤ -3 from h1) (by decide)
  · intro _
    rw [h_up_nc (by decide), h_up_nc (by decide)]
    exact hw.1.2.2.1 (Or.inl h2)
  · intro _
    rw [h_up_nc (by decide), h_up_eq]
    exact h.2.2.2.2.2.2.1
  · exact w_vw_cg hw.2 (fun c i h3 h4 h5 => by rw [h_up_x (by omega), h_up_x (by omega)])
  · intro x hx
    rcases List.mem_cons.mp hx with rfl | hx
    · exact Or.inr (Or.inr (Or.inr (Or.inl rfl)))
    · exact h.2.2.2.2.1 x (List.mem_cons_of_mem _ hx)
  · intro x hx
    rcases List.mem_cons.mp hx with rfl | hx
    · exact ⟨fun h1 => absurd (show (-3 : Int) = -2 from h1) (by decide), fun _ => ⟨(h.2.2.2.2.2.1 e (by simp)).1 h2, Nat.le_refl _⟩⟩
    · exact h.2.2.2.2.2.1 x (List.mem_cons_of_mem _ hx)
theorem op_120 {v : Int32} (h : RX12_ended_120 n sl SH FI FL FR v s) (hp : p_vw K W o0 FI FL t S o B) : match S with
    | [] => v.toInt = 0 ∧ p_vw K W o0 s.2.2.2.1 s.2.2.2.2.1 t [] o B
    | _ :: _ => (s.2.2.2.1 121 69).toInt ≠ 0 := by
  have hn := r_vw_n hp.2.2.1
  cases S with
  | nil =>
    rcases h with ⟨h1, h⟩ | ⟨h1, h⟩
    · rw [hn] at h1
      exact absurd h1 (by simp)
    · obtain ⟨rfl, rfl⟩ := h
      exact ⟨by decide, hp⟩
  | cons e S =>
    rcases h with ⟨h1, h⟩ | ⟨h1, h⟩
    · obtain ⟨v1, n1, sl1, SH1, FI1, FL1, FR1, hc, h⟩ := h
      obtain ⟨rfl, rfl⟩ := h
      exact f_fault hc (by decide)
    · rw [hn, List.length_cons] at h1
      exact absurd (by omega) h1
theorem op_62 {v : Int32} (h : RX12_ended_62 n sl SH FI FL FR v s) (hp : p_vw K W o0 FI FL t S o B) (ht : t < 1002) (hno : ∀ e r, S = e :: r → ¬ (K t = 5 ∧ W t = 58 ∧ e.1 = -2)) : q_opr K W o0 s v (f_end K W t (S, o, B)) := by
  have htp := r_tops (SH := SH) (FL := FL) (FR := FR) hp.2.2.1
  have e120 : RX12_ended_120 n sl SH FI FL FR v s → (∀ e r, S = e :: r → ¬ (K t = 5 ∧ W t = 41 ∧ e.1 = -1)) → q_opr K W o0 s v (f_end K W t (S, o, B)) := by
    intro h h41
    have q := op_120 h hp
    cases S with
    | nil => exact q
    | cons e S =>
      rw [f_end_c, if_neg (hno e S rfl), if_neg (h41 e S rfl)]
      exact q
  rcases h with ⟨h1, h⟩ | ⟨h1, h⟩
  · rw [tk_sign hp.1 (by decide : ((41 : Int32)).toInt = 41)] at h1
    exact e120 h (fun e r _ hh => h1 ⟨hh.1, hh.2.1⟩)
  · rw [tk_sign hp.1 (by decide : ((41 : Int32)).toInt = 41)] at h1
    have h1' : K t = 5 ∧ W t = 41 := Classical.byContradiction (fun hn => h1 hn)
    rcases h with ⟨h2, h⟩ | ⟨h2, h⟩
    · rw [htp] at h2
      cases S with
      | nil => exact absurd h2 (by decide)
      | cons e S =>
        have he1 : e.1 = -1 := h2
        obtain ⟨v7, n7, sl7, SH7, FI7, FL7, FR7, hc, h⟩ := h
        obtain ⟨rfl, rfl⟩ := h
        have ho := o_pop hp.2.2.2 (by omega)
        have hp1 : p_vw K W o0 (h_up (h_up (h_up FI 121 90 ((FI 121 90) - ((1 : Int32)))) 121 71 ((FI 121 71) - ((1 : Int32)))) 121 68 ((FI 121 68) + ((1 : Int32)))) FL (t + 1) S (o - 1) B := by
          refine ⟨⟨?_, hp.1.2.1, ?_, by omega⟩, ?_, r_fl (r_fl (r_pop hp.2.2.1) (by decide) (by decide)) (by decide) (by decide), ?_, ho.2⟩
          · rw [h_up_nc (by decide), h_up_nc (by decide), h_up_nc (by decide)]; exact hp.1.1
          · rw [h_up_eq]; exact i_eqv (by rw [tk_n1 hp.1, i_lit (by omega)])
          · rw [h_up_x (by decide), h_up_x (by decide), h_up_x (by decide)]; exact hp.2.1
          · rw [h_up_x (by decide), h_up_eq]; exact ho.1
        obtain ⟨q1, q2⟩ := p_fin hc hp1
        rw [f_end_c, if_neg (hno e S rfl), if_pos ⟨h1'.1, h1'.2, he1⟩]
        refine ⟨by decide, p_fl (k := 91) (x := 1) q1 (by decide) (by decide) (by decide) (by decide) (by decide), fun _ => q2, ?_⟩
        show (h_up FI7 121 91 1 121 91).toInt = 0 ↔ _
        rw [h_up_eq]
        exact ⟨fun h => absurd h (by decide), fun h => Bool.noConfusion h⟩
    · rw [htp] at h2
      exact e120 h (fun e r he hh => h2 (by rw [he]; exact hh.2.2.trans (by decide)))
theorem op_ended {v v2 : Int32} {n2 sl2 : Nat} {SH2 : Nat → Nat × Nat} {FI2 : Nat → Nat → Int32} {FL2 : Nat → Nat → Int64} {FR2 : Nat → Nat → Option Nat} (h : RX12_ended n sl SH (h_up FI 121 91 0) FL FR v2 (n2, sl2, SH2, FI2, FL2, FR2)) (h2 : P_ret v2 (n2, sl2, SH2, FI2, FL2, FR2) v s) (hp : p_vw K W o0 FI FL t S o B) (ht : t < 1002) (h9 : f_top S ≠ 9) : q_opr K W o0 s v (f_end K W t (f_all S o B)) := by
  have hp1 := p_fl (k := 91) (x := 0) hp (by decide) (by decide) (by decide) (by decide) (by decide)
  obtain ⟨rfl, e2⟩ := h2
  rw [← e2] at h
  clear e2
  obtain ⟨v0, n0, sl0, SH0, FI0, FL0, FR0, hc, h⟩ := h
  obtain ⟨q1, q2, q3⟩ := p_all hc hp1 h9
  have k0 := kX12_reducedAll hc
  have h91 : (FI0 121 91).toInt = 0 := by
    rw [show FI0 121 91 = (h_up FI 121 91 0) 121 91 from kq_fld k0 (by decide), h_up_eq]
    decide
  have htp := r_tops (SH := SH0) (FL := FL0) (FR := FR0) q1.2.2.1
  generalize f_all S o B = A at q1 q2 q3 htp
  obtain ⟨S', o', B'⟩ := A
  dsimp only at q1 q2 q3 htp
  rcases h with ⟨h1, h⟩ | ⟨h1, h⟩
  · rw [tk_sign q1.1 (by decide : ((58 : Int32)).toInt = 58)] at h1
    exact op_62 h q1 ht (fun e r _ hh => h1 ⟨hh.1, hh.2.1⟩)
  · rw [tk_sign q1.1 (by decide : ((58 : Int32)).toInt = 58)] at h1
    have h1' : K t = 5 ∧ W t = 58 := Classical.byContradiction (fun hn => h1 hn)
    rcases h with ⟨h2, h⟩ | ⟨h2, h⟩
    · rw [htp] at h2
      cases S' with
      | nil => exact absurd h2 (by decide)
      | cons e S' =>
        have he2 : e.1 = -2 := h2
        obtain ⟨-, -, rfl, rfl⟩ := h
        have hr := r_fl (k := 68) (x := FI0 121 68 + 1) (r_else q1.2.2.1 he2) (by decide) (by decide)
        obtain ⟨o1, o2, o3, o4⟩ := q1.2.2.2
        rw [f_op, if_neg (by omega)] at o2
        rw [f_end_c, if_pos ⟨h1'.1, h1'.2, he2⟩]
        refine ⟨by decide, ⟨⟨?_, q1.1.2.1, ?_, by omega⟩, ?_, hr, ?_, ?_, o3, o4⟩, fun h => Bool.noConfusion h, ?_⟩
        · try dsimp only
          rw [h_up_nc (by decide), h_up_nc (by decide), h_up_nc (by decide)]; exact q1.1.1
        · try dsimp only
          rw [h_up_eq]; exact i_eqv (by rw [tk_n1 q1.1, i_lit (by omega)])
        · try dsimp only
          rw [h_up_x (by decide), h_up_nc (by decide), h_up_nc (by decide)]; exact q1.2.1
        · try dsimp only
          rw [h_up_x (by decide), h_up_nc (by decide), h_up_nc (by decide)]; exact o1
        · rw [f_op, if_neg (by show ¬ ((1 : Int) ≤ -3 ∧ (-3 : Int) ≤ 7); decide)]; omega
        · try dsimp only
          rw [h_up_x (by decide), h_up_nc (by decide), h_up_nc (by decide)]
          exact ⟨fun _ => rfl, fun _ => h91⟩
    · rw [htp] at h2
      exact op_62 h q1 ht (fun e r he hh => h2 (by rw [he]; exact hh.2.2.trans (by decide)))
theorem op_operator {v : Int32} (h : RX12_operator n sl SH FI FL FR v s) (hS : h_S n SH) (hp : p_vw K W o0 FI FL t S o B) (hg : tk_rg K W) (h9 : f_top S ≠ 9) : q_opr K W o0 s v (f_opr K W t S o B) := by
  have cm1 : ((-1 : Int32)).toInt = -1 := by decide
  have hp1 := p_fl (k := 91) (x := 0) hp (by decide) (by decide) (by decide) (by decide) (by decide)
  have hK : (FI 149 (FI 121 68).toInt.toNat).toInt = K t := by rw [tk_i hp.1, tk_K hp.1]
  have hW : (FL 150 (FI 121 68).toInt.toNat).toInt = W t := by rw [tk_i hp.1, tk_W hp.1]
  have hrg := au_bn_rg (K t) (W t)
  have hop := lc_op_rg (k := K t) (w := W t)
  obtain ⟨hp0, -, h⟩ := h
  have ht := tk_lt hS hp0 (tk_n hp.1)
  rcases h with ⟨h7, h⟩ | ⟨h7, h⟩
  · rw [tk_mul, hK, hW, cm1] at h7
    have n7 : au_bn (K t) (W t) ≠ 7 := by intro e; rw [if_pos e] at h7; omega
    rcases h with ⟨h6, h⟩ | ⟨h6, h⟩
    · rw [tk_adds hp1.1 (tk_n hp.1)] at h6
      have n6 : au_bn (K t) (W t) ≠ 6 := fun e => h6 (au_bn_6.mp e)
      obtain ⟨-, -, h⟩ := h
      rcases h with ⟨h5, h⟩ | ⟨h5, h⟩
      · rw [tk_shf, hK, hW, cm1] at h5
        have n5 : au_bn (K t) (W t) ≠ 5 := by intro e; rw [if_pos e] at h5; omega
        obtain ⟨-, -, h⟩ := h
        rcases h with ⟨h4, h⟩ | ⟨h4, h⟩
        · rw [tk_cmp, hK, hW, cm1] at h4
          have n4 : au_bn (K t) (W t) ≠ 4 := by intro e; rw [if_pos e] at h4; omega
          rcases h with ⟨h3, h⟩ | ⟨h3, h⟩
          · rw [tk_sign hp1.1 (by decide : ((38 : Int32)).toInt = 38)] at h3
            have n3 : au_bn (K t) (W t) ≠ 3 := fun e => h3 (au_bn_3.mp e)
            rcases h with ⟨h2, h⟩ | ⟨h2, h⟩
            · rw [tk_sign hp1.1 (by decide : ((94 : Int32)).toInt = 94)] at h2
              have n2 : au_bn (K t) (W t) ≠ 2 := fun e => h2 (au_bn_2.mp e)
              rcases h with ⟨h1, h⟩ | ⟨h1, h⟩
              · rw [tk_sign hp1.1 (by decide : ((124 : Int32)).toInt = 124)] at h1
                have n1 : au_bn (K t) (W t) ≠ 1 := fun e => h1 (au_bn_1.mp e)
                have n0 := au_bn_0 n7 n6 n5 n4 n3 n2 n1
                rcases h with ⟨h0, h⟩ | ⟨h0, h⟩
                · rw [tk_sign hp1.1 (by decide : ((63 : Int32)).toInt = 63)] at h0
                  obtain ⟨v1, m1, sl1, SH1, FI1, FL1, FR1, hc, h⟩ := h
                  have q := op_ended hc h hp ht h9
                  unfold f_opr
                  rw [if_pos n0, if_neg h0]
                  exact q
                · rw [tk_sign hp1.1 (by decide : ((63 : Int32)).toInt = 63)] at h0
                  have h0' : K t = 5 ∧ W t = 63 := Classical.byContradiction (fun hn => h0 hn)
                  obtain ⟨v1, m1, sl1, SH1, FI1, FL1, FR1, hc1, v2, m2, sl2, SH2, FI2, FL2, FR2, hc2, v3, m3, sl3, SH3, FI3, FL3, FR3, hc3, v4, m4, sl4, SH4, FI4, FL4, FR4, hc4, v5, m5, sl5, SH5, FI5, FL5, FR5, hc5, -, h⟩ := h
                  have q := op_ask hS hc1 hc2 hc3 hc4 hc5 h hp ht h9
                  unfold f_opr
                  rw [if_pos n0, if_pos h0']
                  exact q
              · rw [tk_sign hp1.1 (by decide : ((124 : Int32)).toInt = 124)] at h1
                have h1' : K t = 5 ∧ W t = 124 := Classical.byContradiction (fun hn => h1 hn)
                have e := au_bn_1.mpr h1'
                obtain ⟨v1, m1, sl1, SH1, FI1, FL1, FR1, hc, h⟩ := h
                have q := q_bin (C := lc_op (K t) (W t)) hS hc h hp ht h9 (by rw [e]; decide) (by omega) (by rw [h1'.1, h1'.2]; decide) hop
                rw [f_opr_bin (by omega) (by omega) (by omega)]
                exact q
            · rw [tk_sign hp1.1 (by decide : ((94 : Int32)).toInt = 94)] at h2
              have h2' : K t = 5 ∧ W t = 94 := Classical.byContradiction (fun hn => h2 hn)
              have e := au_bn_2.mpr h2'
              obtain ⟨v1, m1, sl1, SH1, FI1, FL1, FR1, hc, h⟩ := h
              have q := q_bin (C := lc_op (K t) (W t)) hS hc h hp ht h9 (by rw [e]; decide) (by omega) (by rw [h2'.1, h2'.2]; decide) hop
              rw [f_opr_bin (by omega) (by omega) (by omega)]
              exact q
          · rw [tk_sign hp1.1 (by decide : ((38 : Int32)).toInt = 38)] at h3
            have h3' : K t = 5 ∧ W t = 38 := Classical.byContradiction (fun hn => h3 hn)
            have e := au_bn_3.mpr h3'
            obtain ⟨v1, m1, sl1, SH1, FI1, FL1, FR1, hc, h⟩ := h
            have q := q_bin (C := lc_op (K t) (W t)) hS hc h hp ht h9 (by rw [e]; decide) (by omega) (by rw [h3'.1, h3'.2]; decide) hop
            rw [f_opr_bin (by omega) (by omega) (by omega)]
            exact q
        · rw [tk_cmp, hK, hW, cm1] at h4
          have e4 : au_bn (K t) (W t) = 4 := Classical.byContradiction (fun hn => h4 (by rw [if_neg hn]))
          obtain ⟨v1, m1, sl1, SH1, FI1, FL1, FR1, hc, h⟩ := h
          have k1 := kX12_reduced hc
          obtain ⟨q1, q2, q3⟩ := p_red hc (by decide : ((5 : Int32)).toInt = 5) (by decide) hp1 h9
          have htp := r_tops (SH := SH1) (FL := FL1) (FR := FR1) q1.2.2.1
          have hS1 : h_S m1 SH1 := by rw [show m1 = n from k1.1, show SH1 = SH from k1.2.2.1]; exact hS
          unfold f_opr
          rw [if_neg (by omega), if_neg (by simp [e4])]
          rcases h with ⟨h8, h⟩ | ⟨h8, h⟩
          · rw [htp] at h8
            rw [if_pos ⟨e4, h8.trans (by decide)⟩]
            obtain ⟨v3, m3, sl3, SH3, FI3, FL3, FR3, hd, h⟩ := h
            exact (kX12_operator_138 h).2.2.2.2.2.2 (f_fault hd (by decide))
          · rw [htp] at h8
            rw [if_neg (fun hh => h8 (hh.2.trans (by decide)))]
            rcases h with ⟨h10, h⟩ | ⟨h10, h⟩
            · obtain ⟨v3, m3, sl3, SH3, FI3, FL3, FR3, hd, h⟩ := h
              have hcv : (fX12_compares (FI 149 (FI 121 68).toInt.toNat) (FL 150 (FI 121 68).toInt.toNat) SH (h_up FI 121 91 ((0 : Int32))) FL FR).toInt = lc_op (K t) (W t) := by rw [tk_cmp, hK, hW, if_pos e4]
              obtain ⟨e1, q⟩ := p_binary hS1 hd q1 ht q2 (by decide : ((4 : Int32)).toInt = 4) (by decide) hcv hop
              rw [f_pop_pop (by decide)] at q
              subst e1
              have k3 := kX12_binary hd
              have h91 : (FI3 121 91).toInt = 0 := by
                rw [show FI3 121 91 = FI1 121 91 from kq_fld k3 (by decide), show FI1 121 91 = (h_up FI 121 91 0) 121 91 from kq_fld k1 (by decide), h_up_eq]
                decide
              rw [e4]
              rcases h with ⟨h11, h⟩ | ⟨h11, h⟩
              · exact absurd h11 (by decide)
              · obtain ⟨rfl, rfl⟩ := h
                exact ⟨by decide, q, fun h => Bool.noConfusion h, fun _ => rfl, fun _ => h91⟩
            · exact absurd q1.2.1 h10
      · rw [tk_shf, hK, hW, cm1] at h5
        have e5 : au_bn (K t) (W t) = 5 := Classical.byContradiction (fun hn => h5 (by rw [if_neg hn]))
        obtain ⟨v1, m1, sl1, SH1, FI1, FL1, FR1, hc, h⟩ := h
        have q := q_bin (C := lc_op (K t) (W t)) hS hc h hp ht h9 (by rw [e5]; decide) (by omega) (by rw [tk_shf, hK, hW, if_pos e5]) hop
        rw [f_opr_bin (by omega) (by omega) (by omega)]
        exact q
    · rw [tk_adds hp1.1 (tk_n hp.1)] at h6
      have h6' : K t = 5 ∧ (W t = 43 ∨ W t = 45) := Classical.byContradiction (fun hn => h6 hn)
      obtain ⟨v1, m1, sl1, SH1, FI1, FL1, FR1, hc, h⟩ := h
      exact op_added hS hc h hp hg ht h9 (au_bn_6.mpr h6')
  · rw [tk_mul, hK, hW, cm1] at h7
    have e7 : au_bn (K t) (W t) = 7 := Classical.byContradiction (fun hn => h7 (by rw [if_neg hn]))
    obtain ⟨v1, m1, sl1, SH1, FI1, FL1, FR1, hc, h⟩ := h
    have q := q_bin (C := lc_op (K t) (W t)) hS hc h hp ht h9 (by rw [e7]; decide) (by omega) (by rw [tk_mul, hK, hW, if_pos e7]) hop
    rw [f_opr_bin (by omega) (by omega) (by omega)]
    exact q
theorem op_chosen_G (hg : tk_rg K W) : ∀ (g : Nat) (l1 : Int32) (n sl : Nat) (SH : Nat → Nat × Nat) (FI : Nat → Nat → Int32) (FL : Nat → Nat → Int64) (FR : Nat → Nat → Option Nat) (v : Unit) (s : hS) (w : Bool) (t : Nat) (S : List f_E) (o : Int) (B : List Int), GX12_chosen_7 g l1 n sl SH FI FL FR v s → h_S n SH → p_vw K W o0 FI FL t S o B → (l1.toInt = 0 ↔ w = false) → (w = false → f_top S ≠ 9) → ((s.2.2.2.1 121 69).toInt ≠ 0 ∧ f_no K W (t, w, S, o, B)) ∨ (∃ t1 o1 B1, p_vw K W o0 s.2.2.2.1 s.2.2.2.2.1 t1 [] o1 B1 ∧ ∃ k, ∀ j, f_run K W (k + j) (t, w, S, o, B) = some (t1, o1, B1)) := by
  intro g
  induction g with
  | zero => intro l1 n sl SH FI FL FR v s w t S o B h; exact h.elim
  | succ g ih =>
    intro l1 n sl SH FI FL FR v s w t S o B h hS hp hw h9
    rcases h with ⟨h1, h⟩ | ⟨h1, h⟩
    · rcases h with ⟨h2, h⟩ | ⟨h2, h⟩
      · have hwf : w = false := hw.mp h2
        subst hwf
        obtain ⟨v2, n2, sl2, SH2, FI2, FL2, FR2, hc, h⟩ := h
        have k2 := kX12_operator hc
        have hS2 : h_S n2 SH2 := by rw [show n2 = n from k2.1, show SH2 = SH from k2.2.2.1]; exact hS
        have q := op_operator hc hS hp hg (h9 rfl)
        cases hr : f_opr K W t S o B with
        | none =>
          rw [hr] at q
          refine Or.inl ⟨?_, f_no_r hr⟩
          have q' : (FI2 121 69).toInt ≠ 0 := q
          rcases h with ⟨h3, h⟩ | ⟨h3, h⟩
          · obtain ⟨-, rfl⟩ := h
            exact q'
          · rcases h with ⟨h4, h⟩ | ⟨h4, h⟩
            · exact (kGX12_chosen_7 g _ _ _ _ _ _ _ _ _ h).2.2.2.2.2.2 q'
            · exact (kGX12_chosen_7 g _ _ _ _ _ _ _ _ _ h).2.2.2.2.2.2 q'
        | some r =>
          rw [hr] at q
          cases r with
          | inr r =>
            obtain ⟨t1, o1, B1⟩ := r
            obtain ⟨q1, q2⟩ := q
            rcases h with ⟨h3, h⟩ | ⟨h3, h⟩
            · obtain ⟨-, rfl⟩ := h
              exact Or.inr ⟨t1, o1, B1, q2, 1, fun j => by rw [Nat.add_comm 1 j]; exact f_run_re hr⟩
            · exact absurd q1 h3
          | inl r =>
            obtain ⟨t1, w1, S1, o1, B1⟩ := r
            obtain ⟨q1, q2, q3, q4⟩ := q
            have next : ∀ l : Int32, GX12_chosen_7 g l n2 sl2 SH2 FI2 FL2 FR2 v s → (l.toInt = 0 ↔ w1 = false) → ((s.2.2.2.1 121 69).toInt ≠ 0 ∧ f_no K W (t, false, S, o, B)) ∨ (∃ t1 o1 B1, p_vw K W o0 s.2.2.2.1 s.2.2.2.2.1 t1 [] o1 B1 ∧ ∃ k, ∀ j, f_run K W (k + j) (t, false, S, o, B) = some (t1, o1, B1)) := by
              intro l h hl
              rcases ih l n2 sl2 SH2 FI2 FL2 FR2 v s w1 t1 S1 o1 B1 h hS2 q2 hl q3 with ⟨g1, g2⟩ | ⟨t2, o2, B2, g1, k, g2⟩
              · exact Or.inl ⟨g1, f_no_tr (f_to_r hr) g2⟩
              · exact Or.inr ⟨t2, o2, B2, g1, k + 1, fun j => by rw [show k + 1 + j = (k + j) + 1 by omega, f_run_r hr]; exact g2 j⟩
            rcases h with ⟨h3, h⟩ | ⟨h3, h⟩
            · exact absurd h3 q1
            · rcases h with ⟨h4, h⟩ | ⟨h4, h⟩
              · have hw1 := q4.mp h4
                exact next _ h (by rw [hw1]; decide)
              · have hw1 : w1 = false := by
                  cases w1 with
                  | false => rfl
                  | true => exact absurd (q4.mpr rfl) h4
                exact next _ h (by rw [hw1]; decide)
      · have hwt : w = true := by
          cases w with
          | true => rfl
          | false => exact absurd (hw.mpr rfl) h2
        subst hwt
        obtain ⟨v2, n2, sl2, SH2, FI2, FL2, FR2, hc, h⟩ := h
        have k2 := kX12_operand hc
        have hS2 : h_S n2 SH2 := by rw [show n2 = n from k2.1, show SH2 = SH from k2.2.2.1]; exact hS
        have q := op_operand hc hS hp hg
        cases hr : f_opd K W t S o B with
        | none =>
          rw [hr] at q
          refine Or.inl ⟨?_, f_no_d hr⟩
          have q' : (FI2 121 69).toInt ≠ 0 := q
          rcases h with ⟨h4, h⟩ | ⟨h4, h⟩
          · exact (kGX12_chosen_7 g _ _ _ _ _ _ _ _ _ h).2.2.2.2.2.2 q'
          · exact (kGX12_chosen_7 g _ _ _ _ _ _ _ _ _ h).2.2.2.2.2.2 q'
        | some r =>
          rw [hr] at q
          obtain ⟨t1, w1, S1, o1, B1⟩ := r
          obtain ⟨q2, q3, q4⟩ := q
          have next : ∀ l : Int32, GX12_chosen_7 g l n2 sl2 SH2 FI2 FL2 FR2 v s → (l.toInt = 0 ↔ w1 = false) → ((s.2.2.2.1 121 69).toInt ≠ 0 ∧ f_no K W (t, true, S, o, B)) ∨ (∃ t1 o1 B1, p_vw K W o0 s.2.2.2.1 s.2.2.2.2.1 t1 [] o1 B1 ∧ ∃ k, ∀ j, f_run K W (k + j) (t, true, S, o, B) = some (t1, o1, B1)) := by
            intro l h hl
            rcases ih l n2 sl2 SH2 FI2 FL2 FR2 v s w1 t1 S1 o1 B1 h hS2 q2 hl q3 with ⟨g1, g2⟩ | ⟨t2, o2, B2, g1, k, g2⟩
            · exact Or.inl ⟨g1, f_no_tr (f_to_d hr) g2⟩
            · exact Or.inr ⟨t2, o2, B2, g1, k + 1, fun j => by rw [show k + 1 + j = (k + j) + 1 by omega, f_run_d hr]; exact g2 j⟩
          rcases h with ⟨h4, h⟩ | ⟨h4, h⟩
          · have hw1 := q4.mp h4
            exact next _ h (by rw [hw1]; decide)
          · have hw1 : w1 = false := by
              cases w1 with
              | false => rfl
              | true => exact absurd (q4.mpr rfl) h4
            exact next _ h (by rw [hw1]; decide)
    · exact absurd hp.2.1 h1
/-- chosen, by the levels: it refuses what they refuse, and writes what they write -/
theorem op_chosen {T f : Nat} {v : Unit} (h : RX12_chosen n sl SH FI FL FR v s) (hS : h_S n SH) (hg : tk_rg K W) (hT : K T = 0) (ht : t ≤ T) (hf : 12 * (T - t) + 9 < f) (htk : p_tk K W FI FL t) (hF : (FI 121 69).toInt = 0) (ho : (FI 121 71).toInt = o) (ho1 : 0 ≤ o) (ho2 : o ≤ 12) (hB : e_vw FI B) : match lc_ps K W f 0 o t with
    | none => (s.2.2.2.1 121 69).toInt ≠ 0
    | some (t1, c) => t < t1 ∧ t1 ≤ T ∧ ((au_bn (K t1) (W t1) = 4 ∧ (s.2.2.2.1 121 69).toInt ≠ 0) ∨ (au_bn (K t1) (W t1) = 0 ∧ ¬ (K t1 = 5 ∧ W t1 = 63) ∧ p_tk K W s.2.2.2.1 s.2.2.2.2.1 t1 ∧ (s.2.2.2.1 121 69).toInt = 0 ∧ (s.2.2.2.1 121 71).toInt = o ∧ e_vw s.2.2.2.1 (B ++ c))) := by
  obtain ⟨g, h⟩ := h
  have hp : p_vw K W o (h_up FI 121 90 0) FL t [] o B := by
    refine ⟨p_tk_f htk (by decide), by rw [h_up_x (by decide)]; exact hF, ⟨by rw [h_up_eq]; rfl, by simp, trivial, trivial, fun e he => by simp at he, fun e he => by simp at he, e_vw_f hB (by decide)⟩, by rw [h_up_x (by decide)]; exact ho, by simp [f_op], ho1, ho2⟩
  have q := op_chosen_G hg g 1 n sl SH _ FL FR v s true t [] o B h hS hp (by decide) (fun h => Bool.noConfusion h)
  have k := lv_chosen (W := W) hT (o := o) (B := B) ht hf
  generalize lc_ps K W f 0 o t = r at k
  match r, k with
  | none, ⟨m, k⟩ =>
    rcases q with ⟨q1, -⟩ | ⟨t1, o1, B1, q1, m2, q2⟩
    · exact q1
    · have e1 := k m2
      have e2 := q2 m
      rw [Nat.add_comm m2 m, e1] at e2
      cases e2
  | some (t1, c), ⟨k1, k2, k3⟩ =>
    refine ⟨k1, k2, ?_⟩
    rcases k3 with ⟨k3, k4, m, k5⟩ | ⟨k3, m, k4⟩
    · refine Or.inr ⟨k3, k4, ?_⟩
      rcases q with ⟨-, m2, q2⟩ | ⟨t2, o2, B2, q1, m2, q2⟩
      · have e1 := k5 m2
        have e2 := q2 (m + 1)
        rw [show m2 + (m + 1) = m + m2 + 1 by omega, e1] at e2
        cases e2
      · have e1 := k5 m2
        have e2 := q2 (m + 1)
        rw [show m2 + (m + 1) = m + m2 + 1 by omega, e1] at e2
        cases e2
        exact ⟨q1.1, q1.2.1, q1.2.2.2.1, q1.2.2.1.2.2.2.2.2.2⟩
    · refine Or.inl ⟨k3, ?_⟩
      rcases q with ⟨q1, -⟩ | ⟨t2, o2, B2, q1, m2, q2⟩
      · exact q1
      · have e1 := k4 m2
        have e2 := q2 m
        rw [Nat.add_comm m2 m, e1] at e2
        cases e2
end OQ
end
section
/-! THE LANGUAGE's texts compiled, by their tokens: places, locations, rows, declarations. -/
def lp_f (K : Nat → Int) : Nat := 20000
def lp_is (k w : Int) : Bool := decide ((k = 5 ∧ w = 91) ∨ (k = 2 ∧ (w = 0 ∨ w = 1 ∨ w = 2 ∨ w = 3)))
def lp_bl (K W : Nat → Int) : Nat → Nat → Nat → Option (Nat × List Int)
  | 0, _, _ => none
  | f + 1, m, t => if K t = 3 then (if 255 < W t then none else if m = 64 then none else
      match lp_bl K W f (m + 1) (t + 1) with
      | none => none
      | some (t1, c) => some (t1, W t :: c)) else some (t, [])
def lp_pl (K W : Nat → Int) (f : Nat) (o : Int) (t : Nat) : Option (Nat × List Int) :=
  if K t = 5 ∧ W t = 91 then
    if 12 ≤ o then none else
    match lc_ps K W f 0 (o + 1) (t + 1) with
    | none => none
    | some (t1, c) => if K t1 = 5 ∧ W t1 = 93 then some (t1 + 1, c) else none
  else if W t = 0 then (if K (t + 1) = 3 ∧ W (t + 1) ≤ 31 then some (t + 2, [80 + W (t + 1)]) else none)
  else if W t = 1 then
    match lc_ps K W f 0 o (t + 1) with
    | none => none
    | some (t1, c) => some (t1, c ++ [159])
  else if W t = 2 then
    if K (t + 1) = 3 then
      match lp_bl K W 1100 0 (t + 1) with
      | none => none
      | some (t1, c) => some (t1, 158 :: (c.length : Int) :: c)
    else none
  else some (t + 1, [])
/-- parts, from the m-th on, at its first token -/
def lp_pt (K W : Nat → Int) (f : Nat) : Nat → Nat → Nat → Option (Nat × List Int)
  | 0, _, _ => none
  | g + 1, m, t =>
    if lp_is (K t) (W t) = true ∧ m < 8 then
      match lp_pl K W f 1 t with
      | none => none
      | some (t1, c) =>
        if K t1 = 5 ∧ W t1 = 47 ∧ K (t1 + 1) = 3 ∧ W (t1 + 1) ≤ 64 then
          if K (t1 + 2) = 5 ∧ W (t1 + 2) = 44 then
            match lp_pt K W f g (m + 1) (t1 + 3) with
            | none => none
            | some (t2, c2) => some (t2, c ++ 147 :: (lc_u 9 (W (t1 + 1)) ++ c2))
          else if K (t1 + 2) = 5 ∧ W (t1 + 2) = 125 then some (t1 + 3, c ++ 147 :: lc_u 9 (W (t1 + 1))) else none
        else none
    else none
def lp_lc (K W : Nat → Int) (f : Nat) (t : Nat) : Option (Nat × List Int) :=
  if K t = 5 ∧ W t = 123 then lp_pt K W f 20 0 (t + 1) else if lp_is (K t) (W t) = true then lp_pl K W f 0 t else none
/-- rows, from the m-th on: how many, their bytes, whether one of their locations is too long -/
def lp_rw (K W : Nat → Int) (f : Nat) : Nat → Nat → Nat → Option (Nat × Nat × List Int × Bool)
  | 0, _, _ => none
  | g + 1, m, t =>
    if K t = 3 ∧ m < 8 ∧ K (t + 1) = 5 ∧ W (t + 1) = 256 ∧ K (t + 2) = 3 ∧ W t < W (t + 2) ∧ K (t + 3) = 5 ∧ W (t + 3) = 58 then
      match lp_lc K W f (t + 4) with
      | none => none
      | some (t1, c) =>
        if K t1 = 5 ∧ W t1 = 44 then
          match lp_rw K W f g (m + 1) (t1 + 1) with
          | none => none
          | some (t2, m2, c2, b2) => some (t2, m2, lc_by (W t) 8 ++ (lc_by (W (t + 2)) 8 ++ (lc_by c.length 2 ++ (c ++ c2))), decide (300 < c.length) || b2)
        else some (t1, m + 1, lc_by (W t) 8 ++ (lc_by (W (t + 2)) 8 ++ (lc_by c.length 2 ++ c)), decide (300 < c.length))
    else none
/-- what a declaration says behind its = : its end, its rows, its bytes, whether it is too long -/
def lp_bd (K W : Nat → Int) (f : Nat) (t : Nat) : Option (Nat × Nat × List Int × Bool) :=
  if K t = 3 then
    match lp_rw K W f 20 0 t with
    | none => none
    | some (t1, m, c, b) => some (t1, m, c ++ (lc_by 0 8 ++ lc_by 0 8), b)
  else
    match lp_lc K W f t with
    | none => none
    | some (t1, c) => some (t1, 0, c, decide (300 < c.length))
/-- a variable: its name, where its body begins, its rows, its bytes, whether it is too long -/
abbrev lp_V : Type := Int × Nat × Nat × List Int × Bool
def lp_tx (K W : Nat → Int) (f : Nat) : Nat → Nat → List lp_V → Option (List lp_V)
  | 0, _, _ => none
  | g + 1, t, V =>
    if K t = 0 then some V else
    if K t = 1 ∧ (∀ v, v ∈ V → v.1 ≠ W t) ∧ V.length < 12 ∧ K (t + 1) = 5 ∧ W (t + 1) = 61 then
      match lp_bd K W f (t + 2) with
      | none => none
      | some (t1, m, c, b) => if K t1 = 5 ∧ W t1 = 59 then lp_tx K W f g (t1 + 1) (V ++ [(W t, t + 2, m, c, b)]) else none
    else none
def lp_ok (V : List lp_V) : Prop := ∀ v, v ∈ V → v.2.2.2.2 = false ∧ v.2.2.2.1.length ≤ 600
/-! PLACE, as the reference reads it. -/
section PL
variable {K W : Nat → Int} {n sl : Nat} {SH : Nat → Nat × Nat} {FI : Nat → Nat → Int32} {FL : Nat → Nat → Int64} {FR : Nat → Nat → Option Nat} {t T f : Nat} {o : Int} {B : List Int} {s : hS}
/-- between expressions: the token, no fault, what is open, the bytes -/
def d_vw (K W : Nat → Int) (FI : Nat → Nat → Int32) (FL : Nat → Nat → Int64) (t : Nat) (o : Int) (B : List Int) : Prop := p_tk K W FI FL t ∧ (FI 121 69).toInt = 0 ∧ (FI 121 71).toInt = o ∧ e_vw FI B
def k_dv (m : k_M) : Bool := k_no m 149 && k_no (m.2.2.1, m.2.2.2, [], []) 150 && !k_in m.1 m.2.1 121 68 && !k_in m.1 m.2.1 121 69 && !k_in m.1 m.2.1 121 71
theorem d_em {m : k_M} {a b : hS} {c : List Int} (h : d_vw K W a.2.2.2.1 a.2.2.2.2.1 t o B) (hk : kq m a b) (he : e_ap a.2.2.2.1 b.2.2.2.1 c) (hm : k_dv m = true) : d_vw K W b.2.2.2.1 b.2.2.2.2.1 t o (B ++ c) := by
  unfold k_dv at hm
  simp only [Bool.and_eq_true, Bool.not_eq_true'] at hm
  obtain ⟨⟨⟨⟨m1, m2⟩, m3⟩, m4⟩, m5⟩ := hm
  obtain ⟨⟨h1, h2, h3, h4⟩, h5, h6, h7⟩ := h
  exact ⟨⟨by rw [kq_cell hk m1]; exact h1, by rw [kq_fl hk m2]; exact h2, by rw [kq_fld hk m3]; exact h3, h4⟩, by rw [kq_fld hk m4]; exact h5, by rw [kq_fld hk m5]; exact h6, he B h7⟩
theorem d_ti {x : Int32} {t1 : Nat} (h : d_vw K W FI FL t o B) (hx : x.toInt = t1) (ht : t1 ≤ 2000) : d_vw K W (h_up FI 121 68 x) FL t1 o B := by
  refine ⟨⟨by rw [h_up_nc (by decide)]; exact h.1.1, h.1.2.1, ?_, ht⟩, by rw [h_up_x (by decide)]; exact h.2.1, by rw [h_up_x (by decide)]; exact h.2.2.1, e_vw_f h.2.2.2 (by decide)⟩
  rw [h_up_eq]
  exact i_eqv (by rw [hx, i_lit (by omega)])
theorem d_fl {k : Nat} {x : Int32} (h : d_vw K W FI FL t o B) (h1 : k ≠ 68) (h2 : k ≠ 69) (h3 : k ≠ 71) (h4 : k ≠ 73) : d_vw K W (h_up FI 121 k x) FL t o B := ⟨p_tk_f h.1 h1, by rw [h_up_x (by rintro ⟨-, e⟩; exact h2 e.symm)]; exact h.2.1, by rw [h_up_x (by rintro ⟨-, e⟩; exact h3 e.symm)]; exact h.2.2.1, e_vw_f h.2.2.2 h4⟩
theorem d_op {x : Int32} {o1 : Int} (h : d_vw K W FI FL t o B) (hx : x.toInt = o1) : d_vw K W (h_up FI 121 71 x) FL t o1 B := ⟨p_tk_f h.1 (by decide), by rw [h_up_x (by decide)]; exact h.2.1, by rw [h_up_eq]; exact hx, e_vw_f h.2.2.2 (by decide)⟩
theorem d_ce {c k : Nat} {x : Int32} (h : d_vw K W FI FL t o B) (h1 : c ≠ 121) (h2 : c ≠ 149) (h3 : c ≠ 154) : d_vw K W (h_up FI c k x) FL t o B := ⟨⟨by rw [h_up_nc (fun e => h2 e.symm)]; exact h.1.1, h.1.2.1, by rw [h_up_nc (fun e => h1 e.symm)]; exact h.1.2.2.1, h.1.2.2.2⟩, by rw [h_up_nc (fun e => h1 e.symm)]; exact h.2.1, by rw [h_up_nc (fun e => h1 e.symm)]; exact h.2.2.1, e_vw_c h.2.2.2 h1 h3⟩
/-- need: the sign, or a fault -/
theorem d_need {a : Int32} {A : Int} {v : Unit} (h : RX12_need a n sl SH FI FL FR v s) (ha : a.toInt = A) (hd : d_vw K W FI FL t o B) (ht : t + 1 ≤ 2000) : (K t = 5 ∧ W t = A ∧ d_vw K W s.2.2.2.1 s.2.2.2.2.1 (t + 1) o B) ∨ (¬ (K t = 5 ∧ W t = A) ∧ (s.2.2.2.1 121 69).toInt ≠ 0) := by
  rcases h with ⟨h1, h⟩ | ⟨h1, h⟩
  · rcases h with ⟨h2, h⟩ | ⟨h2, h⟩
    · rw [tk_sign hd.1 ha] at h2
      obtain ⟨v1, n1, sl1, SH1, FI1, FL1, FR1, hc, h⟩ := h
      obtain ⟨-, rfl⟩ := h
      exact Or.inr ⟨h2, f_fault hc (by decide)⟩
    · rw [tk_sign hd.1 ha] at h2
      have h2' : K t = 5 ∧ W t = A := Classical.byContradiction (fun hn => h2 hn)
      obtain ⟨-, rfl⟩ := h
      exact Or.inl ⟨h2'.1, h2'.2, d_ti hd (tk_n1 hd.1) ht⟩
  · exact absurd hd.2.1 h1
theorem d_opens {v : Unit} (h : RX12_opens n sl SH FI FL FR v s) (hd : d_vw K W FI FL t o B) (ht : t + 1 ≤ 2000) (ho : 0 ≤ o) (ho2 : o ≤ 12) : (12 ≤ o ∧ (s.2.2.2.1 121 69).toInt ≠ 0) ∨ (¬ 12 ≤ o ∧ d_vw K W s.2.2.2.1 s.2.2.2.2.1 (t + 1) (o + 1) B) := by
  rcases p_opens h hd.1 ht hd.2.2.1 ho2 ho with ⟨g1, g2⟩ | ⟨g1, rfl⟩
  · exact Or.inl ⟨by omega, g2⟩
  · refine Or.inr ⟨by omega, ?_⟩
    have h2 := d_op (x := FI 121 71 + 1) (o1 := o + 1) hd (i_add hd.2.2.1 (by decide : ((1 : Int32)).toInt = 1) (by omega) (by omega))
    exact d_ti h2 (tk_n1 hd.1) ht
/-- an expression: refused, or at its end, or at a comparison too many -/
theorem d_chosen {v : Unit} (h : RX12_chosen n sl SH FI FL FR v s) (hS : h_S n SH) (hg : tk_rg K W) (hT : K T = 0) (ht : t ≤ T) (hf : 12 * (T - t) + 9 < f) (hd : d_vw K W FI FL t o B) (ho : 0 ≤ o) (ho2 : o ≤ 12) : match lc_ps K W f 0 o t with
    | none => (s.2.2.2.1 121 69).toInt ≠ 0
    | some (t1, c) => t < t1 ∧ t1 ≤ T ∧ ((au_bn (K t1) (W t1) = 4 ∧ (s.2.2.2.1 121 69).toInt ≠ 0) ∨ (au_bn (K t1) (W t1) = 0 ∧ d_vw K W s.2.2.2.1 s.2.2.2.2.1 t1 o (B ++ c))) := by
  have q := op_chosen h hS hg hT ht hf hd.1 hd.2.1 hd.2.2.1 ho ho2 hd.2.2.2
  generalize lc_ps K W f 0 o t = r at q
  match r, q with
  | none, q => exact q
  | some (t1, c), ⟨q1, q2, q3⟩ =>
    refine ⟨q1, q2, ?_⟩
    rcases q3 with q3 | ⟨q3, q4, q5, q6, q7, q8⟩
    · exact Or.inl q3
    · exact Or.inr ⟨q3, q5, q6, q7, q8⟩
end PL
end
section
/-! place. -/
theorem e_patch {FI : Nat → Nat → Int32} {B1 B2 : List Int} {x : Int} {i : Nat} {y : Int32} (h : e_vw FI (B1 ++ x :: B2)) (hi : B1.length ≤ 4000 → i = B1.length) : e_vw (h_up FI 154 i y) (B1 ++ y.toInt :: B2) := by
  have hl : (B1 ++ y.toInt :: B2).length = (B1 ++ x :: B2).length := by simp
  refine ⟨by rw [h_up_nc (by decide), hl]; exact h.1, fun h1 j hj => ?_⟩
  rw [hl] at h1 hj
  have hL : B1.length ≤ 4000 := by
    rw [List.length_append] at h1
    omega
  have hi' := hi hL
  subst hi'
  by_cases hj2 : j = B1.length
  · subst hj2
    rw [h_up_eq]
    simp
  · rw [h_up_ne hj2, h.2 h1 j hj]
    simp only [List.getD_eq_getElem?_getD]
    rcases Nat.lt_or_ge j B1.length with h3 | h3
    · rw [List.getElem?_append_left h3, List.getElem?_append_left h3]
    · rw [List.getElem?_append_right h3, List.getElem?_append_right h3, show j - B1.length = (j - B1.length - 1) + 1 by omega, List.getElem?_cons_succ, List.getElem?_cons_succ]
section PQ
variable {K W : Nat → Int} {n sl : Nat} {SH : Nat → Nat × Nat} {FI : Nat → Nat → Int32} {FL : Nat → Nat → Int64} {FR : Nat → Nat → Option Nat} {t T f : Nat} {o : Int} {B : List Int} {s : hS}
theorem d_287 {l2 l3 : Int32} {m : Nat} {C : List Int} {v : Unit} (h : RX12_place_287 l2 l3 n sl SH FI FL FR v s) (hl2 : B.length ≤ 4000 → l2.toInt.toNat = B.length) (hl3 : l3.toInt = m) (hd : d_vw K W FI FL t o (B ++ 0 :: C)) : d_vw K W s.2.2.2.1 s.2.2.2.2.1 t o (B ++ (m : Int) :: C) := by
  rcases h with ⟨h1, h⟩ | ⟨h1, h⟩
  · obtain ⟨-, rfl⟩ := h
    refine ⟨hd.1, hd.2.1, hd.2.2.1, ?_⟩
    refine e_vw_ln hd.2.2.2 (by simp) ?_
    have e4 : ((4000 : Int32)).toInt = 4000 := by decide
    rw [e4, hd.2.2.2.1] at h1
    rcases Nat.lt_or_ge 4000 (B ++ 0 :: C).length with h2 | h2
    · exact h2
    · rw [i_lit (by omega)] at h1
      omega
  · obtain ⟨-, -, rfl⟩ := h
    have q := e_patch (y := l3) hd.2.2.2 hl2
    rw [hl3] at q
    show d_vw K W (h_up FI 154 l2.toInt.toNat l3) FL t o _
    exact ⟨⟨by rw [h_up_nc (by decide)]; exact hd.1.1, hd.1.2.1, by rw [h_up_nc (by decide)]; exact hd.1.2.2.1, hd.1.2.2.2⟩, by rw [h_up_nc (by decide)]; exact hd.2.1, by rw [h_up_nc (by decide)]; exact hd.2.2.1, q⟩
theorem d_bl (hg : tk_rg K W) (hT : K T = 0) (hT2 : T ≤ 1001) : ∀ (g : Nat) (l2 l3 : Int32) (n sl : Nat) (SH : Nat → Nat × Nat) (FI : Nat → Nat → Int32) (FL : Nat → Nat → Int64) (FR : Nat → Nat → Option Nat) (v : Unit) (s : hS) (f m t : Nat) (C : List Int), GX12_place_200 g l2 l3 n sl SH FI FL FR v s → (B.length ≤ 4000 → l2.toInt.toNat = B.length) → l3.toInt = m → m ≤ 64 → t ≤ T → T - t < f → C.length = m → d_vw K W FI FL t o (B ++ 0 :: C) → match lp_bl K W f m t with
    | none => (s.2.2.2.1 121 69).toInt ≠ 0
    | some (t1, c) => t ≤ t1 ∧ t1 ≤ T ∧ d_vw K W s.2.2.2.1 s.2.2.2.2.1 t1 o (B ++ ((m + c.length : Nat) : Int) :: (C ++ c)) := by
  intro g
  induction g with
  | zero => intro l2 l3 n sl SH FI FL FR v s f m t C h; exact h.elim
  | succ g ih =>
    intro l2 l3 n sl SH FI FL FR v s f m t C h hl2 hl3 hm ht hf hC hd
    have c3 : ((3 : Int32)).toInt = 3 := by decide
    have c255 : ((255 : Int64)).toInt = 255 := by decide
    have c64 : ((64 : Int32)).toInt = 64 := by decide
    have hK : (FI 149 (FI 121 68).toInt.toNat).toInt = K t := by rw [tk_i hd.1, tk_K hd.1]
    have hW : (FL 150 (FI 121 68).toInt.toNat).toInt = W t := by rw [tk_i hd.1, tk_W hd.1]
    cases f with
    | zero => omega
    | succ f =>
      have stop : K t ≠ 3 → RX12_place_287 l2 l3 n sl SH FI FL FR v s → match lp_bl K W (f + 1) m t with
          | none => (s.2.2.2.1 121 69).toInt ≠ 0
          | some (t1, c) => t ≤ t1 ∧ t1 ≤ T ∧ d_vw K W s.2.2.2.1 s.2.2.2.2.1 t1 o (B ++ ((m + c.length : Nat) : Int) :: (C ++ c)) := by
        intro h3 h
        rw [lp_bl, if_neg h3]
        have q := d_287 h hl2 hl3 hd
        refine ⟨Nat.le_refl _, ht, ?_⟩
        simpa using q
      rcases h with ⟨h1, h⟩ | ⟨h1, h⟩
      · obtain ⟨hp0, h⟩ := h
        rcases h with ⟨h2, h⟩ | ⟨h2, h⟩
        · rw [hK, c3] at h2
          have hr := (hg t).1 h2
          have ht1 := lt_T hT ht (by omega)
          rw [lp_bl, if_pos h2]
          obtain ⟨-, h⟩ := h
          rcases h with ⟨h3, h⟩ | ⟨h3, h⟩
          · rw [hW, c255] at h3
            rw [if_pos h3]
            obtain ⟨v3, n3, sl3, SH3, FI3, FL3, FR3, hc, -, v4, n4, sl4, SH4, FI4, FL4, FR4, he, h⟩ := h
            refine (kGX12_place_200 g _ _ _ _ _ _ _ _ _ _ h).2.2.2.2.2.2 ?_
            try dsimp only
            rw [h_up_x (by decide)]
            exact (kX12_emit he).2.2.2.2.2.2 (f_fault hc (by decide))
          · rw [hW, c255] at h3
            rw [if_neg h3]
            rcases h with ⟨h4, h⟩ | ⟨h4, h⟩
            · rw [hl3, c64] at h4
              rw [if_pos (by omega)]
              obtain ⟨v3, n3, sl3, SH3, FI3, FL3, FR3, hc, -, v4, n4, sl4, SH4, FI4, FL4, FR4, he, h⟩ := h
              refine (kGX12_place_200 g _ _ _ _ _ _ _ _ _ _ h).2.2.2.2.2.2 ?_
              try dsimp only
              rw [h_up_x (by decide)]
              exact (kX12_emit he).2.2.2.2.2.2 (f_fault hc (by decide))
            · rw [hl3, c64] at h4
              rw [if_neg (by omega)]
              obtain ⟨-, v4, n4, sl4, SH4, FI4, FL4, FR4, he, h⟩ := h
              have q1 := d_em (a := (n, sl, SH, FI, FL, FR)) (b := (n4, sl4, SH4, FI4, FL4, FR4)) hd (kX12_emit he) (em_emit (b := W t) he (by rw [l_i_m256, hW]; omega)) (by decide)
              have q2 := d_ti q1 (tk_n1 q1.1) (by omega)
              have e1 : (B ++ 0 :: C) ++ [W t] = B ++ 0 :: (C ++ [W t]) := by simp
              rw [e1] at q2
              have k := ih l2 (l3 + 1) n4 sl4 SH4 _ FL4 FR4 v s f (m + 1) (t + 1) (C ++ [W t]) h hl2 (by rw [i_add hl3 (by decide : ((1 : Int32)).toInt = 1) (by omega) (by omega)]; omega) (by omega) ht1 (by omega) (by rw [List.length_append, hC]; rfl) q2
              generalize lp_bl K W f (m + 1) (t + 1) = r at k
              match r, k with
              | none, k => exact k
              | some (t1, c), ⟨k1, k2, k3⟩ =>
                refine ⟨by omega, k2, ?_⟩
                have e2 : m + 1 + c.length = m + (W t :: c).length := by rw [List.length_cons]; omega
                have e3 : C ++ [W t] ++ c = C ++ W t :: c := by simp
                rw [e2, e3] at k3
                exact k3
        · rw [hK, c3] at h2
          exact stop h2 h
      · exact absurd hd.2.1 h1
theorem d_101 {v : Unit} (h : RX12_place_101 n sl SH FI FL FR v s) (hg : tk_rg K W) (hd : d_vw K W FI FL t o B) (h3 : K t = 3) (h31 : W t ≤ 31) (ht : t + 1 ≤ 2000) : d_vw K W s.2.2.2.1 s.2.2.2.2.1 (t + 1) o (B ++ [80 + W t]) := by
  have hr := (hg t).1 h3
  have hW : (FL 150 (FI 121 68).toInt.toNat).toInt = W t := by rw [tk_i hd.1, tk_W hd.1]
  rcases h with ⟨h1, h⟩ | ⟨h1, h⟩
  · obtain ⟨-, v1, n1, sl1, SH1, FI1, FL1, FR1, hc, h⟩ := h
    obtain ⟨-, rfl⟩ := h
    have q1 := d_em (a := (n, sl, SH, FI, FL, FR)) (b := (n1, sl1, SH1, FI1, FL1, FR1)) hd (kX12_emit hc) (em_emit (b := 80 + W t) hc (by
      rw [i_add (by decide : ((80 : Int32)).toInt = 80) (l_2i hW (by omega) (by omega)) (by omega) (by omega)]
      omega)) (by decide)
    exact d_ti q1 (tk_n1 q1.1) ht
  · exact absurd hd.2.1 h1
theorem d_place {v : Unit} (h : RX12_place n sl SH FI FL FR v s) (hS : h_S n SH) (hg : tk_rg K W) (hT : K T = 0) (hT2 : T ≤ 1001) (ht : t ≤ T) (hf : 12 * T + 20 < f) (hd : d_vw K W FI FL t o B) (ho : 0 ≤ o) (ho2 : o ≤ 12) (hi : lp_is (K t) (W t) = true) : match lp_pl K W f o t with
    | none => (s.2.2.2.1 121 69).toInt ≠ 0
    | some (t1, c) => t < t1 ∧ t1 ≤ T ∧ ((au_bn (K t1) (W t1) = 4 ∧ (s.2.2.2.1 121 69).toInt ≠ 0) ∨ d_vw K W s.2.2.2.1 s.2.2.2.2.1 t1 o (B ++ c)) := by
  have hi2 : (K t = 5 ∧ W t = 91) ∨ (K t = 2 ∧ (W t = 0 ∨ W t = 1 ∨ W t = 2 ∨ W t = 3)) := by simpa [lp_is] using hi
  have ht1 := lt_T hT ht (by omega)
  have hW : (FL 150 (FI 121 68).toInt.toNat).toInt = W t := by rw [tk_i hd.1, tk_W hd.1]
  have hK1 : (FI 149 ((FI 121 68) + ((1 : Int32))).toInt.toNat).toInt = K (t + 1) := by rw [tk_i1 hd.1, tk_K hd.1]
  have hW1 : (FL 150 ((FI 121 68) + ((1 : Int32))).toInt.toNat).toInt = W (t + 1) := by rw [tk_i1 hd.1, tk_W hd.1]
  have hd1 := d_ti hd (tk_n1 hd.1) (by omega)
  have c3 : ((3 : Int32)).toInt = 3 := by decide
  have c0 : ((0 : Int32)).toInt = 0 := by decide
  have c1 : ((1 : Int32)).toInt = 1 := by decide
  have c2 : ((2 : Int32)).toInt = 2 := by decide
  have c31 : ((31 : Int64)).toInt = 31 := by decide
  unfold lp_pl
  rcases h with ⟨h1, h⟩ | ⟨h1, h⟩
  · rw [tk_sign hd.1 (by decide : ((91 : Int32)).toInt = 91)] at h1
    have hk2 : K t = 2 ∧ (W t = 0 ∨ W t = 1 ∨ W t = 2 ∨ W t = 3) := by
      rcases hi2 with h | h
      · exact absurd h h1
      · exact h
    have hW32 := l_2i hW (by omega) (by omega)
    rw [if_neg h1]
    obtain ⟨-, h⟩ := h
    rcases h with ⟨h2, h⟩ | ⟨h2, h⟩
    · rw [hW32] at h2
      rw [if_pos h2]
      obtain ⟨-, h⟩ := h
      rcases h with ⟨h3, h⟩ | ⟨h3, h⟩
      · rw [hK1, c3] at h3
        have ht2 := lt_T hT ht1 (by omega)
        obtain ⟨-, h⟩ := h
        rcases h with ⟨h4, h⟩ | ⟨h4, h⟩
        · rw [hW1, c31] at h4
          rw [if_neg (by omega)]
          obtain ⟨v3, n3, sl3, SH3, FI3, FL3, FR3, hc, h⟩ := h
          exact (kX12_place_101 h).2.2.2.2.2.2 (f_fault hc (by decide))
        · rw [hW1, c31] at h4
          rw [if_pos ⟨h3, by omega⟩]
          exact ⟨by omega, ht2, Or.inr (d_101 h hg hd1 h3 (by omega) (by omega))⟩
      · rw [hK1, c3] at h3
        rw [if_neg (by omega)]
        obtain ⟨v3, n3, sl3, SH3, FI3, FL3, FR3, hc, h⟩ := h
        exact (kX12_place_101 h).2.2.2.2.2.2 (f_fault hc (by decide))
    · rw [hW32] at h2
      rw [if_neg h2]
      rcases h with ⟨h3, h⟩ | ⟨h3, h⟩
      · rw [hW32, c1] at h3
        rw [if_pos h3]
        obtain ⟨v3, n3, sl3, SH3, FI3, FL3, FR3, hc, v4, n4, sl4, SH4, FI4, FL4, FR4, he, h⟩ := h
        obtain ⟨-, rfl⟩ := h
        have q := d_chosen (f := f) hc hS hg hT ht1 (by omega) hd1 ho ho2
        generalize lc_ps K W f 0 o (t + 1) = r at q
        match r, q with
        | none, q => exact (kX12_emit he).2.2.2.2.2.2 q
        | some (t1, c), ⟨q1, q2, q3⟩ =>
          refine ⟨by omega, q2, ?_⟩
          rcases q3 with ⟨q3, q4⟩ | ⟨q3, q4⟩
          · exact Or.inl ⟨q3, (kX12_emit he).2.2.2.2.2.2 q4⟩
          · have q5 := d_em (a := (n3, sl3, SH3, FI3, FL3, FR3)) (b := (n4, sl4, SH4, FI4, FL4, FR4)) q4 (kX12_emit he) (em_emit (b := 159) he (by decide)) (by decide)
            rw [List.append_assoc] at q5
            exact Or.inr q5
      · rw [hW32, c1] at h3
        rw [if_neg h3]
        rcases h with ⟨h4, h⟩ | ⟨h4, h⟩
        · rw [hW32, c2] at h4
          rw [if_pos h4]
          obtain ⟨-, h⟩ := h
          rcases h with ⟨h5, h⟩ | ⟨h5, h⟩
          · rw [hK1, c3] at h5
            rw [if_pos h5]
            obtain ⟨v3, n3, sl3, SH3, FI3, FL3, FR3, hc, v4, n4, sl4, SH4, FI4, FL4, FR4, he, g, h⟩ := h
            have q1 := d_em (a := (n, sl, SH, _, FL, FR)) (b := (n3, sl3, SH3, FI3, FL3, FR3)) hd1 (kX12_emit hc) (em_emit (b := 158) hc (by decide)) (by decide)
            have q2 := d_em (a := (n3, sl3, SH3, FI3, FL3, FR3)) (b := (n4, sl4, SH4, FI4, FL4, FR4)) q1 (kX12_emit he) (em_emit (b := 0) he (by decide)) (by decide)
            have k := d_bl hg hT hT2 g (FI3 121 73) 0 n4 sl4 SH4 FI4 FL4 FR4 v s 1100 0 (t + 1) [] h (fun hl => by rw [show FI3 121 73 = _ from q1.2.2.2.1, i_lit (by omega)]; omega) (by decide) (by omega) ht1 (by omega) rfl q2
            generalize lp_bl K W 1100 0 (t + 1) = r at k
            match r, k with
            | none, k => exact k
            | some (t1, c), ⟨k1, k2, k3⟩ =>
              refine ⟨by omega, k2, Or.inr ?_⟩
              rw [List.append_assoc] at k3
              simpa using k3
          · rw [hK1, c3] at h5
            rw [if_neg h5]
            obtain ⟨v3, n3, sl3, SH3, FI3, FL3, FR3, hc, h⟩ := h
            exact (kX12_place_181 h).2.2.2.2.2.2 (f_fault hc (by decide))
        · rw [hW32, c2] at h4
          rw [if_neg h4]
          obtain ⟨-, rfl⟩ := h
          refine ⟨by omega, ht1, Or.inr ?_⟩
          rw [List.append_nil]
          exact hd1
  · rw [tk_sign hd.1 (by decide : ((91 : Int32)).toInt = 91)] at h1
    have h1' : K t = 5 ∧ W t = 91 := Classical.byContradiction (fun hn => h1 hn)
    rw [if_pos h1']
    obtain ⟨v3, n3, sl3, SH3, FI3, FL3, FR3, hc, v4, n4, sl4, SH4, FI4, FL4, FR4, he, v5, n5, sl5, SH5, FI5, FL5, FR5, hn, h⟩ := h
    obtain ⟨-, rfl⟩ := h
    have kc := kX12_opens hc
    have ke := kX12_chosen he
    have kn := kX12_need hn
    have bad : (FI4 121 69).toInt ≠ 0 → ((h_up FI5 121 71 ((FI5 121 71) - ((1 : Int32)))) 121 69).toInt ≠ 0 := by
      intro h
      rw [h_up_x (by decide)]
      exact kn.2.2.2.2.2.2 h
    rcases d_opens hc hd (by omega) ho ho2 with ⟨g1, g2⟩ | ⟨g1, g2⟩
    · rw [if_pos g1]
      exact bad (ke.2.2.2.2.2.2 g2)
    · rw [if_neg g1]
      have hS3 : h_S n3 SH3 := by rw [show n3 = n from kc.1, show SH3 = SH from kc.2.2.1]; exact hS
      have q := d_chosen (f := f) he hS3 hg hT ht1 (by omega) g2 (by omega) (by omega)
      generalize lc_ps K W f 0 (o + 1) (t + 1) = r at q
      match r, q with
      | none, q => exact bad q
      | some (t1, c), ⟨q1, q2, q3⟩ =>
        dsimp only
        rcases q3 with ⟨q3, q4⟩ | ⟨q3, q4⟩
        · rw [if_neg (by rintro ⟨e1, e2⟩; rw [e1, e2] at q3; exact absurd q3 (by decide))]
          exact bad q4
        · rcases d_need hn (by decide : ((93 : Int32)).toInt = 93) q4 (by omega) with ⟨g3, g4, g5⟩ | ⟨g3, g4⟩
          · rw [if_pos ⟨g3, g4⟩]
            have ht3 := lt_T hT q2 (by omega)
            refine ⟨by omega, ht3, Or.inr ?_⟩
            have g6 := d_op (x := FI5 121 71 - 1) (o1 := o) g5 (by rw [i_sub g5.2.2.1 (by decide : ((1 : Int32)).toInt = 1) (by omega) (by omega)]; omega)
            exact g6
          · rw [if_neg g3]
            try dsimp only
            rw [h_up_x (by decide)]
            exact g4
end PQ
end
