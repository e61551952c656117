/-! CODES: what ms_x says of each; what the reference asks of them. -/
theorem mx_48 {E : ms_E} {c : Int} {a b : Int64} {bl : List Int32} {S : List Int64} {H : ms_H} (h : 48 ≤ c ∧ c ≤ 79) : ms_x E c a b bl S H = ms_ps (Int64.ofInt (c - 48)) S H := by
  unfold ms_x
  rw [if_pos (by omega)]
theorem mx_80 {E : ms_E} {c : Int} {a b : Int64} {bl : List Int32} {S : List Int64} {H : ms_H} (h : 80 ≤ c ∧ c ≤ 111) : ms_x E c a b bl S H = .inr (S, (2, Int64.ofInt (c - 80), [])) := by
  unfold ms_x
  rw [if_neg (by omega), if_pos (by omega)]
theorem mx_112 {E : ms_E} {c : Int} {a b : Int64} {bl : List Int32} {S : List Int64} {H : ms_H} (h : 112 ≤ c ∧ c ≤ 143) : ms_x E c a b bl S H = ms_ps (ms_rg E (c - 112).toNat + a) S H := by
  unfold ms_x
  rw [if_neg (by omega), if_neg (by omega), if_pos (by omega)]
theorem mx_3 {E : ms_E} {c : Int} {a b : Int64} {bl : List Int32} {S : List Int64} {H : ms_H} (h : c = 3 ∨ (8 ≤ c ∧ c ≤ 17)) : ms_x E c a b bl S H = ms_ps a S H := by
  unfold ms_x
  rw [if_neg (by omega), if_neg (by omega), if_neg (by omega), if_pos (by omega)]
theorem mx_144 {E : ms_E} {c : Int} {a b : Int64} {bl : List Int32} {S : List Int64} {H : ms_H} (h : c = 144) : ms_x E c a b bl S H = .inr (S, (2, a, [])) := by
  unfold ms_x
  rw [if_neg (by omega), if_neg (by omega), if_neg (by omega), if_neg (by omega), if_pos (by omega)]
theorem mx_146 {E : ms_E} {c : Int} {a b : Int64} {bl : List Int32} {S : List Int64} {H : ms_H} (h : c = 146) : ms_x E c a b bl S H = ms_ps (ms_rg E a.toInt.toNat + b) S H := by
  unfold ms_x
  rw [if_neg (by omega), if_neg (by omega), if_neg (by omega), if_neg (by omega), if_neg (by omega), if_pos (by omega)]
theorem mx_150 {E : ms_E} {c : Int} {a b : Int64} {bl : List Int32} {S : List Int64} {H : ms_H} (h : c = 150) : ms_x E c a b bl S H = .inr (S, H) := by
  unfold ms_x
  rw [if_neg (by omega), if_neg (by omega), if_neg (by omega), if_neg (by omega), if_neg (by omega), if_neg (by omega), if_pos (by omega)]
theorem mx_151 {E : ms_E} {c : Int} {a b : Int64} {bl : List Int32} {S : List Int64} {H : ms_H} (h : c = 151) : ms_x E c a b bl S H = (match ms_ob E with | none => .inl 11 | some v => ms_ps v S H) := by
  unfold ms_x
  rw [if_neg (by omega), if_neg (by omega), if_neg (by omega), if_neg (by omega), if_neg (by omega), if_neg (by omega), if_neg (by omega), if_pos h]
  cases ms_ob E <;> rfl
theorem mx_156 {E : ms_E} {c : Int} {a b : Int64} {bl : List Int32} {S : List Int64} {H : ms_H} (h : c = 156) : ms_x E c a b bl S H = (if ms_cr E = -1 then .inl 11 else ms_ps (ms_rg E (ms_cr E).toNat + ms_co E) S H) := by
  unfold ms_x
  rw [if_neg (by omega), if_neg (by omega), if_neg (by omega), if_neg (by omega), if_neg (by omega), if_neg (by omega), if_neg (by omega), if_neg (by omega), if_pos (by omega)]
theorem mx_158 {E : ms_E} {c : Int} {a b : Int64} {bl : List Int32} {S : List Int64} {H : ms_H} (h : c = 158) : ms_x E c a b bl S H = .inr (S, (4, a, bl)) := by
  unfold ms_x
  rw [if_neg (by omega), if_neg (by omega), if_neg (by omega), if_neg (by omega), if_neg (by omega), if_neg (by omega), if_neg (by omega), if_neg (by omega), if_neg (by omega), if_pos (by omega)]
theorem mx_6 {E : ms_E} {c : Int} {a b t : Int64} {bl : List Int32} {R : List Int64} {H : ms_H} (h : c = 6) : ms_x E c a b bl (t :: R) H = (if t.toInt < 0 ∨ 4088 < t.toInt then .inl 5 else .inr (ms_rd E t.toInt.toNat 8 :: R, H)) := by
  unfold ms_x
  rw [if_neg (by omega), if_neg (by omega), if_neg (by omega), if_neg (by omega), if_neg (by omega), if_neg (by omega), if_neg (by omega), if_neg (by omega), if_neg (by omega), if_neg (by omega)]
  dsimp only
  rw [if_pos h]
theorem mx_148 {E : ms_E} {c : Int} {a b t : Int64} {bl : List Int32} {R : List Int64} {H : ms_H} (h : c = 148) : ms_x E c a b bl (t :: R) H = (if t.toInt < 0 ∨ 4096 - a.toInt < t.toInt then .inl 5 else .inr (ms_rd E t.toInt.toNat a.toInt.toNat :: R, H)) := by
  unfold ms_x
  rw [if_neg (by omega), if_neg (by omega), if_neg (by omega), if_neg (by omega), if_neg (by omega), if_neg (by omega), if_neg (by omega), if_neg (by omega), if_neg (by omega), if_neg (by omega)]
  dsimp only
  rw [if_neg (by omega), if_pos h]
theorem mx_18 {E : ms_E} {c : Int} {a b t : Int64} {bl : List Int32} {R : List Int64} {H : ms_H} (h : c = 18) : ms_x E c a b bl (t :: R) H = ms_ps t (t :: R) H := by
  unfold ms_x
  rw [if_neg (by omega), if_neg (by omega), if_neg (by omega), if_neg (by omega), if_neg (by omega), if_neg (by omega), if_neg (by omega), if_neg (by omega), if_neg (by omega), if_neg (by omega)]
  dsimp only
  rw [if_neg (by omega), if_neg (by omega), if_pos h]
theorem mx_19 {E : ms_E} {c : Int} {a b t : Int64} {bl : List Int32} {R : List Int64} {H : ms_H} (h : c = 19) : ms_x E c a b bl (t :: R) H = .inr (R, H) := by
  unfold ms_x
  rw [if_neg (by omega), if_neg (by omega), if_neg (by omega), if_neg (by omega), if_neg (by omega), if_neg (by omega), if_neg (by omega), if_neg (by omega), if_neg (by omega), if_neg (by omega)]
  dsimp only
  rw [if_neg (by omega), if_neg (by omega), if_neg (by omega), if_pos h]
theorem mx_21 {E : ms_E} {c : Int} {a b t : Int64} {bl : List Int32} {R : List Int64} {H : ms_H} (h : c = 21) : ms_x E c a b bl (t :: R) H = ms_ps ((t :: R).getD a.toInt.toNat 0) (t :: R) H := by
  unfold ms_x
  rw [if_neg (by omega), if_neg (by omega), if_neg (by omega), if_neg (by omega), if_neg (by omega), if_neg (by omega), if_neg (by omega), if_neg (by omega), if_neg (by omega), if_neg (by omega)]
  dsimp only
  rw [if_neg (by omega), if_neg (by omega), if_neg (by omega), if_neg (by omega), if_pos h]
theorem mx_25 {E : ms_E} {c : Int} {a b t : Int64} {bl : List Int32} {R : List Int64} {H : ms_H} (h : c = 25) : ms_x E c a b bl (t :: R) H = .inr ((if t.toInt < 0 then -t else t) :: R, H) := by
  unfold ms_x
  rw [if_neg (by omega), if_neg (by omega), if_neg (by omega), if_neg (by omega), if_neg (by omega), if_neg (by omega), if_neg (by omega), if_neg (by omega), if_neg (by omega), if_neg (by omega)]
  dsimp only
  rw [if_neg (by omega), if_neg (by omega), if_neg (by omega), if_neg (by omega), if_neg (by omega), if_pos h]
theorem mx_31 {E : ms_E} {c : Int} {a b t : Int64} {bl : List Int32} {R : List Int64} {H : ms_H} (h : c = 31) : ms_x E c a b bl (t :: R) H = .inr (-t :: R, H) := by
  unfold ms_x
  rw [if_neg (by omega), if_neg (by omega), if_neg (by omega), if_neg (by omega), if_neg (by omega), if_neg (by omega), if_neg (by omega), if_neg (by omega), if_neg (by omega), if_neg (by omega)]
  dsimp only
  rw [if_neg (by omega), if_neg (by omega), if_neg (by omega), if_neg (by omega), if_neg (by omega), if_neg (by omega), if_pos h]
theorem mx_32 {E : ms_E} {c : Int} {a b t : Int64} {bl : List Int32} {R : List Int64} {H : ms_H} (h : c = 32) : ms_x E c a b bl (t :: R) H = .inr ((t ^^^ (-1 : Int64)) :: R, H) := by
  unfold ms_x
  rw [if_neg (by omega), if_neg (by omega), if_neg (by omega), if_neg (by omega), if_neg (by omega), if_neg (by omega), if_neg (by omega), if_neg (by omega), if_neg (by omega), if_neg (by omega)]
  dsimp only
  rw [if_neg (by omega), if_neg (by omega), if_neg (by omega), if_neg (by omega), if_neg (by omega), if_neg (by omega), if_neg (by omega), if_pos h]
theorem mx_35 {E : ms_E} {c : Int} {a b t : Int64} {bl : List Int32} {R : List Int64} {H : ms_H} (h : c = 35) : ms_x E c a b bl (t :: R) H = .inr ((t + a) :: R, H) := by
  unfold ms_x
  rw [if_neg (by omega), if_neg (by omega), if_neg (by omega), if_neg (by omega), if_neg (by omega), if_neg (by omega), if_neg (by omega), if_neg (by omega), if_neg (by omega), if_neg (by omega)]
  dsimp only
  rw [if_neg (by omega), if_neg (by omega), if_neg (by omega), if_neg (by omega), if_neg (by omega), if_neg (by omega), if_neg (by omega), if_neg (by omega), if_pos h]
theorem mx_155 {E : ms_E} {c : Int} {a b t : Int64} {bl : List Int32} {R : List Int64} {H : ms_H} (h : c = 155) : ms_x E c a b bl (t :: R) H = (match ms_tl E with | none => .inl 11 | some v => .inr ((v + t) :: R, H)) := by
  unfold ms_x
  rw [if_neg (by omega), if_neg (by omega), if_neg (by omega), if_neg (by omega), if_neg (by omega), if_neg (by omega), if_neg (by omega), if_neg (by omega), if_neg (by omega), if_neg (by omega)]
  dsimp only
  rw [if_neg (by omega), if_neg (by omega), if_neg (by omega), if_neg (by omega), if_neg (by omega), if_neg (by omega), if_neg (by omega), if_neg (by omega), if_neg (by omega), if_pos h]
  cases ms_tl E <;> rfl
theorem mx_159 {E : ms_E} {c : Int} {a b t : Int64} {bl : List Int32} {R : List Int64} {H : ms_H} (h : c = 159) : ms_x E c a b bl (t :: R) H = .inr (R, (3, t, [])) := by
  unfold ms_x
  rw [if_neg (by omega), if_neg (by omega), if_neg (by omega), if_neg (by omega), if_neg (by omega), if_neg (by omega), if_neg (by omega), if_neg (by omega), if_neg (by omega), if_neg (by omega)]
  dsimp only
  rw [if_neg (by omega), if_neg (by omega), if_neg (by omega), if_neg (by omega), if_neg (by omega), if_neg (by omega), if_neg (by omega), if_neg (by omega), if_neg (by omega), if_neg (by omega), if_pos h]
theorem mx_20 {E : ms_E} {c : Int} {a b t s : Int64} {bl : List Int32} {Q : List Int64} {H : ms_H} (h : c = 20) : ms_x E c a b bl (t :: s :: Q) H = ms_ps s (t :: s :: Q) H := by
  unfold ms_x
  rw [if_neg (by omega), if_neg (by omega), if_neg (by omega), if_neg (by omega), if_neg (by omega), if_neg (by omega), if_neg (by omega), if_neg (by omega), if_neg (by omega), if_neg (by omega)]
  dsimp only
  rw [if_neg (by omega), if_neg (by omega), if_neg (by omega), if_neg (by omega), if_neg (by omega), if_neg (by omega), if_neg (by omega), if_neg (by omega), if_neg (by omega), if_neg (by omega), if_neg (by omega)]
  try dsimp only
  rw [if_pos h]
theorem mx_22 {E : ms_E} {c : Int} {a b t s : Int64} {bl : List Int32} {Q : List Int64} {H : ms_H} (h : c = 22) : ms_x E c a b bl (t :: s :: Q) H = .inr (s :: t :: Q, H) := by
  unfold ms_x
  rw [if_neg (by omega), if_neg (by omega), if_neg (by omega), if_neg (by omega), if_neg (by omega), if_neg (by omega), if_neg (by omega), if_neg (by omega), if_neg (by omega), if_neg (by omega)]
  dsimp only
  rw [if_neg (by omega), if_neg (by omega), if_neg (by omega), if_neg (by omega), if_neg (by omega), if_neg (by omega), if_neg (by omega), if_neg (by omega), if_neg (by omega), if_neg (by omega), if_neg (by omega)]
  try dsimp only
  rw [if_neg (by omega), if_pos h]
theorem mx_23 {E : ms_E} {c : Int} {a b t s r : Int64} {bl : List Int32} {Q : List Int64} {H : ms_H} (h : c = 23) : ms_x E c a b bl (t :: s :: r :: Q) H = .inr (s :: r :: t :: Q, H) := by
  unfold ms_x
  rw [if_neg (by omega), if_neg (by omega), if_neg (by omega), if_neg (by omega), if_neg (by omega), if_neg (by omega), if_neg (by omega), if_neg (by omega), if_neg (by omega), if_neg (by omega)]
  dsimp only
  rw [if_neg (by omega), if_neg (by omega), if_neg (by omega), if_neg (by omega), if_neg (by omega), if_neg (by omega), if_neg (by omega), if_neg (by omega), if_neg (by omega), if_neg (by omega), if_neg (by omega)]
  try dsimp only
  rw [if_neg (by omega), if_neg (by omega), if_pos h]
theorem mx_bin {E : ms_E} {c : Int} {a b t s : Int64} {bl : List Int32} {Q : List Int64} {H : ms_H} (h : 26 ≤ c ∧ c ≤ 46 ∧ c ≠ 31 ∧ c ≠ 32 ∧ c ≠ 35 ∧ c ≠ 40) : ms_x E c a b bl (t :: s :: Q) H = (if (c = 27 ∨ c = 29) ∧ t.toInt = 0 then .inl 6 else .inr (ms_wk c s t :: Q, H)) := by
  unfold ms_x
  rw [if_neg (by omega), if_neg (by omega), if_neg (by omega), if_neg (by omega), if_neg (by omega), if_neg (by omega), if_neg (by omega), if_neg (by omega), if_neg (by omega), if_neg (by omega)]
  dsimp only
  rw [if_neg (by omega), if_neg (by omega), if_neg (by omega), if_neg (by omega), if_neg (by omega), if_neg (by omega), if_neg (by omega), if_neg (by omega), if_neg (by omega), if_neg (by omega), if_neg (by omega)]
  try dsimp only
  rw [if_neg (by omega), if_neg (by omega), if_neg (by omega)]
theorem w_wants {c : Int32} {a : Int64} {SH : Nat → Nat × Nat} {FI : Nat → Nat → Int32} {FL : Nat → Nat → Int64} {FR : Nat → Nat → Option Nat} (ha : FL 121 35 = a) (h21 : c.toInt = 21 → 0 ≤ a.toInt ∧ a.toInt ≤ 255) : (fX12_wants c SH FI FL FR).toInt = ms_wt c.toInt a := by
  unfold fX12_wants ms_wt
  simp only [Int32.reduceToInt]
  by_cases h6 : c.toInt = 6
  · rw [if_pos h6, if_pos (by omega)]; decide
  rw [if_neg h6]
  by_cases h18 : c.toInt = 18
  · rw [if_pos h18, if_pos (by omega)]; decide
  rw [if_neg h18]
  by_cases h19 : c.toInt = 19
  · rw [if_pos h19, if_pos (by omega)]; decide
  rw [if_neg h19]
  by_cases h25 : c.toInt = 25
  · rw [if_pos h25, if_pos (by omega)]; decide
  rw [if_neg h25]
  by_cases h31 : c.toInt = 31
  · rw [if_pos h31, if_pos (by omega)]; decide
  rw [if_neg h31]
  by_cases h32 : c.toInt = 32
  · rw [if_pos h32, if_pos (by omega)]; decide
  rw [if_neg h32]
  by_cases h35 : c.toInt = 35
  · rw [if_pos h35, if_pos (by omega)]; decide
  rw [if_neg h35]
  by_cases h40 : c.toInt = 40
  · rw [if_pos h40, if_pos (by omega)]; decide
  rw [if_neg h40]
  by_cases h148 : c.toInt = 148
  · rw [if_pos h148, if_pos (by omega)]; decide
  rw [if_neg h148]
  by_cases h155 : c.toInt = 155
  · rw [if_pos h155, if_pos (by omega)]; decide
  rw [if_neg h155]
  by_cases h159 : c.toInt = 159
  · rw [if_pos h159, if_pos (by omega)]; decide
  rw [if_neg h159]
  rw [if_neg (show ¬ (c.toInt = 6 ∨ c.toInt = 18 ∨ c.toInt = 19 ∨ c.toInt = 25 ∨ c.toInt = 31 ∨ c.toInt = 32 ∨ c.toInt = 35 ∨ c.toInt = 40 ∨ c.toInt = 148 ∨ c.toInt = 155 ∨ c.toInt = 159) by omega)]
  by_cases h20 : c.toInt = 20
  · rw [if_pos h20, if_pos (by omega)]; decide
  rw [if_neg h20]
  by_cases h22 : c.toInt = 22
  · rw [if_pos h22, if_pos (by omega)]; decide
  rw [if_neg h22]
  rw [if_neg (show ¬ (c.toInt = 20 ∨ c.toInt = 22) by omega)]
  by_cases h9 : c.toInt = 21
  · rw [if_pos h9, if_pos h9, ha, i_add (l_2i rfl (by have := h21 h9; omega) (by have := h21 h9; omega)) (by decide : ((1 : Int32)).toInt = 1) (by have := h21 h9; omega) (by have := h21 h9; omega)]
  rw [if_neg h9, if_neg h9]
  by_cases h23 : c.toInt = 23
  · rw [if_pos h23, if_pos h23]; decide
  rw [if_neg h23, if_neg h23]
  by_cases ha1 : c.toInt < 26
  · rw [if_pos ha1, if_neg (by omega)]; decide
  rw [if_neg ha1]
  by_cases ha2 : 46 < c.toInt
  · rw [if_pos ha2, if_neg (by omega)]; decide
  rw [if_neg ha2, if_pos (by omega)]; decide
def ms_pu (c : Int) : Bool := c = 3 || (8 ≤ c && c ≤ 18) || c = 20 || c = 21 || (48 ≤ c && c ≤ 79) || (112 ≤ c && c ≤ 143) || c = 146 || c = 151 || c = 156
theorem w_byte {c : Int32} (h0 : 0 ≤ c.toInt) (h1 : c.toInt ≤ 255) : ∃ k : Nat, k < 256 ∧ c = Int32.ofNat k := ⟨c.toInt.toNat, by omega, i_of (by omega) (by omega)⟩
def w_S : Nat → Nat × Nat := fun _ => (0, 0)
def w_I : Nat → Nat → Int32 := fun _ _ => 0
def w_L : Nat → Nat → Int64 := fun _ _ => 0
def w_R : Nat → Nat → Option Nat := fun _ _ => none
theorem w_pushes {c : Int32} {SH : Nat → Nat × Nat} {FI : Nat → Nat → Int32} {FL : Nat → Nat → Int64} {FR : Nat → Nat → Option Nat} (h0 : 0 ≤ c.toInt) (h1 : c.toInt ≤ 255) : (fX12_pushes c SH FI FL FR).toInt = 0 ↔ ms_pu c.toInt = false := by
  obtain ⟨k, hk, rfl⟩ := w_byte h0 h1
  have key : ∀ k : Nat, k < 256 → ((fX12_pushes (Int32.ofNat k) w_S w_I w_L w_R).toInt = 0 ↔ ms_pu (Int32.ofNat k).toInt = false) := by decide +kernel
  exact key k hk
theorem w_known {c : Int32} {SH : Nat → Nat × Nat} {FI : Nat → Nat → Int32} {FL : Nat → Nat → Int64} {FR : Nat → Nat → Option Nat} (h0 : 0 ≤ c.toInt) (h1 : c.toInt ≤ 255) : (fX12_isKnown c SH FI FL FR).toInt = 0 ↔ ms_kn c.toInt = false := by
  obtain ⟨k, hk, rfl⟩ := w_byte h0 h1
  have key : ∀ k : Nat, k < 256 → ((fX12_isKnown (Int32.ofNat k) w_S w_I w_L w_R).toInt = 0 ↔ ms_kn (Int32.ofNat k).toInt = false) := by decide +kernel
  exact key k hk
theorem ms_pu_i {c : Int} (h : ms_pu c = true) : c = 3 ∨ (8 ≤ c ∧ c ≤ 18) ∨ c = 20 ∨ c = 21 ∨ (48 ≤ c ∧ c ≤ 79) ∨ (112 ≤ c ∧ c ≤ 143) ∨ c = 146 ∨ c = 151 ∨ c = 156 := by
  unfold ms_pu at h
  simp only [Bool.or_eq_true, Bool.and_eq_true, decide_eq_true_eq] at h
  omega
theorem ms_pu_n {c : Int} (h : ms_pu c = false) : ¬ (c = 3 ∨ (8 ≤ c ∧ c ≤ 18) ∨ c = 20 ∨ c = 21 ∨ (48 ≤ c ∧ c ≤ 79) ∨ (112 ≤ c ∧ c ≤ 143) ∨ c = 146 ∨ c = 151 ∨ c = 156) := by
  intro e
  have : ms_pu c = true := by
    unfold ms_pu
    simp only [Bool.or_eq_true, Bool.and_eq_true, decide_eq_true_eq]
    omega
  rw [h] at this
  cases this
theorem ms_kn_i {c : Int} (h : ms_kn c = true) : c = 3 ∨ c = 6 ∨ (8 ≤ c ∧ c ≤ 23) ∨ (25 ≤ c ∧ c ≤ 148) ∨ (150 ≤ c ∧ c ≤ 153) ∨ (155 ≤ c ∧ c ≤ 159) := by
  unfold ms_kn at h
  simp only [Bool.or_eq_true, Bool.and_eq_true, decide_eq_true_eq] at h
  omega
theorem pv_48 {c a6 : Int32} {a b t s : Int64} {SH : Nat → Nat × Nat} {FI : Nat → Nat → Int32} {FL : Nat → Nat → Int64} {FR : Nat → Nat → Option Nat} (h : 48 ≤ c.toInt ∧ c.toInt ≤ 79) : fX12_pushes_ c a b t s a6 SH FI FL FR = (c - ((48 : Int32))).toInt64 := by
  unfold fX12_pushes_
  simp only [Int32.reduceToInt]
  rw [if_neg (by omega), if_neg (by omega)]
theorem pv_112 {c a6 : Int32} {a b t s : Int64} {SH : Nat → Nat × Nat} {FI : Nat → Nat → Int32} {FL : Nat → Nat → Int64} {FR : Nat → Nat → Option Nat} (h : 112 ≤ c.toInt ∧ c.toInt ≤ 143) : fX12_pushes_ c a b t s a6 SH FI FL FR = FL 122 (c - ((112 : Int32))).toInt.toNat + a := by
  unfold fX12_pushes_
  simp only [Int32.reduceToInt]
  rw [if_neg (by omega), if_pos (by omega), if_neg (by omega), if_neg (by omega)]
theorem pv_146 {c a6 : Int32} {a b t s : Int64} {SH : Nat → Nat × Nat} {FI : Nat → Nat → Int32} {FL : Nat → Nat → Int64} {FR : Nat → Nat → Option Nat} (h : c.toInt = 146) : fX12_pushes_ c a b t s a6 SH FI FL FR = FL 122 (a.toInt32).toInt.toNat + b := by
  unfold fX12_pushes_
  simp only [Int32.reduceToInt]
  rw [if_neg (by omega), if_pos (by omega), if_neg (by omega), if_pos (by omega), if_pos (by omega)]
theorem pv_151 {c a6 : Int32} {a b t s : Int64} {SH : Nat → Nat × Nat} {FI : Nat → Nat → Int32} {FL : Nat → Nat → Int64} {FR : Nat → Nat → Option Nat} (h : c.toInt = 151) : fX12_pushes_ c a b t s a6 SH FI FL FR = FL 121 8 := by
  unfold fX12_pushes_
  simp only [Int32.reduceToInt]
  rw [if_neg (by omega), if_pos (by omega), if_neg (by omega), if_pos (by omega), if_neg (by omega), if_pos (by omega)]
theorem pv_156 {c a6 : Int32} {a b t s : Int64} {SH : Nat → Nat × Nat} {FI : Nat → Nat → Int32} {FL : Nat → Nat → Int64} {FR : Nat → Nat → Option Nat} (h : c.toInt = 156) : fX12_pushes_ c a b t s a6 SH FI FL FR = FL 122 (FI 121 6).toInt.toNat + FL 121 7 := by
  unfold fX12_pushes_
  simp only [Int32.reduceToInt]
  rw [if_neg (by omega), if_pos (by omega), if_neg (by omega), if_pos (by omega), if_neg (by omega), if_neg (by omega), if_pos (by omega)]
theorem pv_18 {c a6 : Int32} {a b t s : Int64} {SH : Nat → Nat × Nat} {FI : Nat → Nat → Int32} {FL : Nat → Nat → Int64} {FR : Nat → Nat → Option Nat} (h : c.toInt = 18) : fX12_pushes_ c a b t s a6 SH FI FL FR = t := by
  unfold fX12_pushes_
  simp only [Int32.reduceToInt]
  rw [if_pos (by omega), if_pos (by omega), if_neg (by omega), if_neg (by omega), if_neg (by omega), if_pos (by omega)]
theorem pv_20 {c a6 : Int32} {a b t s : Int64} {SH : Nat → Nat × Nat} {FI : Nat → Nat → Int32} {FL : Nat → Nat → Int64} {FR : Nat → Nat → Option Nat} (h : c.toInt = 20) : fX12_pushes_ c a b t s a6 SH FI FL FR = s := by
  unfold fX12_pushes_
  simp only [Int32.reduceToInt]
  rw [if_pos (by omega), if_pos (by omega), if_neg (by omega), if_neg (by omega), if_neg (by omega), if_neg (by omega), if_pos (by omega)]
theorem pv_21 {c a6 : Int32} {a b t s : Int64} {SH : Nat → Nat × Nat} {FI : Nat → Nat → Int32} {FL : Nat → Nat → Int64} {FR : Nat → Nat → Option Nat} (h : c.toInt = 21) : fX12_pushes_ c a b t s a6 SH FI FL FR = FL 127 ((a6 - ((1 : Int32))) - (a.toInt32)).toInt.toNat := by
  unfold fX12_pushes_
  simp only [Int32.reduceToInt]
  rw [if_pos (by omega), if_pos (by omega), if_neg (by omega), if_neg (by omega), if_neg (by omega), if_neg (by omega), if_neg (by omega), if_pos (by omega)]
theorem pv_3 {c a6 : Int32} {a b t s : Int64} {SH : Nat → Nat × Nat} {FI : Nat → Nat → Int32} {FL : Nat → Nat → Int64} {FR : Nat → Nat → Option Nat} (h : c.toInt = 3 ∨ (8 ≤ c.toInt ∧ c.toInt ≤ 17)) : fX12_pushes_ c a b t s a6 SH FI FL FR = a := by
  unfold fX12_pushes_
  simp only [Int32.reduceToInt]
  rw [if_pos (by omega), if_pos (by omega), if_neg (by omega), if_neg (by omega), if_neg (by omega), if_neg (by omega), if_neg (by omega), if_neg (by omega)]
