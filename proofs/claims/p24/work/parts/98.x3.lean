/-! A CHOICE's parts change places: turned. -/
theorem f_turn_len {a m : Nat} {B : List Int} (h1 : a + 2 ≤ m) (h2 : m ≤ B.length) : (f_turn a m B).length = B.length + 3 := by
  unfold f_turn
  simp only [List.length_append, List.length_cons, List.length_take, List.length_drop, lc_by, List.length_nil]
  omega
theorem f_turn_get {a m : Nat} {B : List Int} (h1 : a + 2 ≤ m) (h2 : m ≤ B.length) (i : Nat) (hi : i < B.length + 3) : (f_turn a m B).getD i 0 =
    if i < a then B.getD i 0 else if i = a then ((B.length - m : Nat) + 3 : Int) % 256 else if i = a + 1 then ((B.length - m : Nat) + 3 : Int) / 256 % 256 else
    if i < a + 2 + (B.length - m) then B.getD (m + (i - (a + 2))) 0 else if i = a + 2 + (B.length - m) then 47 else if i = a + 2 + (B.length - m) + 1 then ((m - a - 2 : Nat) : Int) % 256 else if i = a + 2 + (B.length - m) + 2 then ((m - a - 2 : Nat) : Int) / 256 % 256 else
    B.getD (a + 2 + (i - (a + 2 + (B.length - m) + 3))) 0 := by
  have e1 : (B.take a).length = a := by rw [List.length_take]; omega
  have e2 : (B.drop m).length = B.length - m := by rw [List.length_drop]
  unfold f_turn
  simp only [List.getD_eq_getElem?_getD]
  by_cases c1 : i < a
  · rw [if_pos c1, List.getElem?_append_left (by omega), List.getElem?_take_of_lt c1]
  · rw [if_neg c1, List.getElem?_append_right (by omega), e1]
    by_cases c2 : i = a
    · rw [if_pos c2, c2, Nat.sub_self]
      simp [lc_by]
    · rw [if_neg c2]
      by_cases c3 : i = a + 1
      · rw [if_pos c3, c3, show a + 1 - a = 1 by omega]
        simp [lc_by]
      · rw [if_neg c3, List.getElem?_append_right (by simp [lc_by]; omega), show (lc_by (((B.length - m : Nat) : Int) + 3) 2).length = 2 from rfl]
        by_cases c4 : i < a + 2 + (B.length - m)
        · rw [if_pos c4, List.getElem?_append_left (by omega), List.getElem?_drop, show m + (i - a - 2) = m + (i - (a + 2)) by omega]
        · rw [if_neg c4, List.getElem?_append_right (by omega), e2]
          by_cases c5 : i = a + 2 + (B.length - m)
          · rw [if_pos c5, show i - a - 2 - (B.length - m) = 0 by omega]
            simp
          · rw [if_neg c5, show i - a - 2 - (B.length - m) = (i - (a + 2 + (B.length - m) + 1)) + 1 by omega, List.getElem?_cons_succ]
            by_cases c6 : i = a + 2 + (B.length - m) + 1
            · rw [if_pos c6, show i - (a + 2 + (B.length - m) + 1) = 0 by omega]
              simp [lc_by]
            · rw [if_neg c6]
              by_cases c7 : i = a + 2 + (B.length - m) + 2
              · rw [if_pos c7, show i - (a + 2 + (B.length - m) + 1) = 1 by omega]
                simp [lc_by]
              · rw [if_neg c7, List.getElem?_append_right (by simp [lc_by]; omega), show (lc_by ((m - a - 2 : Nat) : Int) 2).length = 2 from rfl, List.getElem?_take_of_lt (by omega), List.getElem?_drop, show a + 2 + (i - (a + 2 + (B.length - m) + 1) - 2) = a + 2 + (i - (a + 2 + (B.length - m) + 3)) by omega]
theorem i_sh8 {x : Int32} {A : Int} (hx : x.toInt = A) : (x >>> ((8 : Int32) &&& 31)).toInt = A / 256 := by
  have e : ((8 : Int32) &&& 31) = (8 : Int32) := by decide
  rw [e]
  have e2 : (x >>> (8 : Int32)).toBitVec = x.toBitVec.sshiftRight 8 := by
    rw [Int32.toBitVec_shiftRight]; rfl
  show (x >>> (8 : Int32)).toBitVec.toInt = _
  rw [e2, BitVec.toInt_sshiftRight, Int.shiftRight_eq_div_pow, ← hx]; rfl
section TU
theorem tu_74 {a m f g : Nat} {l1 l2 l3 l4 : Int32} (ha : l1.toInt = a) (hm : l2.toInt = m) (hf : l3.toInt = f) (hg : l4.toInt = g) (hb : a ≤ 5000) (hbf : f ≤ 5000) : ∀ (u : Nat) (l5 : Int32) (n sl : Nat) (SH : Nat → Nat × Nat) (FI : Nat → Nat → Int32) (FL : Nat → Nat → Int64) (FR : Nat → Nat → Option Nat) (v : Unit) (s : hS) (k : Nat), GX12_turned_74 u l1 l2 l3 l4 l5 n sl SH FI FL FR v s → l5.toInt = k → k ≤ f → ∃ FI2, RX12_turned_107 l1 l2 l3 l4 0 n sl SH FI2 FL FR v s ∧ FI2 154 = FI 154 ∧ (∀ j, k ≤ j → j < f → FI2 164 j = FI 154 (a + 2 + j)) ∧ (∀ j, j < k → FI2 164 j = FI 164 j) := by
  intro u
  induction u with
  | zero => intro l5 n sl SH FI FL FR v s k h; exact h.elim
  | succ u ih =>
    intro l5 n sl SH FI FL FR v s k h hl hk
    rcases h with ⟨h1, h⟩ | ⟨h1, h⟩
    · replace h := h.2.2
      have hk1 : (l5 + 1).toInt = ((k + 1 : Nat) : Int) := by
        rw [i_add hl (by decide : ((1 : Int32)).toInt = 1) (by omega) (by omega)]; omega
      have e1 : ((l1) + ((2 : Int32))).toInt = a + 2 := i_add ha (by decide : ((2 : Int32)).toInt = 2) (by omega) (by omega)
      have e2 : (((l1) + ((2 : Int32))) + l5).toInt.toNat = a + 2 + k := by
        rw [i_add e1 hl (by omega) (by omega)]; omega
      have e3 : l5.toInt.toNat = k := by omega
      obtain ⟨F2, q1, q2, q3, q4⟩ := ih (l5 + 1) n sl SH _ FL FR v s (k + 1) h hk1 (by omega)
      refine ⟨F2, q1, ?_, fun j h2 h3 => ?_, fun j h2 => ?_⟩
      · rw [q2, h_up_nc (by decide)]
      · by_cases hj : j = k
        · subst hj
          rw [q4 j (by omega), e3, h_up_eq, e2]
        · rw [q3 j (by omega) h3, h_up_nc (by decide)]
      · rw [q4 j (by omega), e3, h_up_ne (by omega)]
    · refine ⟨FI, h, rfl, fun j h2 h3 => ?_, fun j _ => rfl⟩
      exfalso; omega
theorem tu_107 {a m f g : Nat} {l1 l2 l3 l4 : Int32} (ha : l1.toInt = a) (hm : l2.toInt = m) (hf : l3.toInt = f) (hg : l4.toInt = g) (hb : a ≤ 5000) (hbm : m ≤ 5000) (hbg : g ≤ 5000) (ham : a + 2 ≤ m) : ∀ (u : Nat) (l5 : Int32) (n sl : Nat) (SH : Nat → Nat × Nat) (FI : Nat → Nat → Int32) (FL : Nat → Nat → Int64) (FR : Nat → Nat → Option Nat) (v : Unit) (s : hS) (k : Nat), GX12_turned_107 u l1 l2 l3 l4 l5 n sl SH FI FL FR v s → l5.toInt = k → k ≤ g → ∃ FI2, RX12_turned_191 l1 l3 l4 ((l1 + (2 : Int32)) + l4) 0 n sl SH (h_up (h_up (h_up FI2 154 (a + 2 + g) (47 : Int32)) 154 (a + 2 + g + 1) (l3 &&& (255 : Int32))) 154 (a + 2 + g + 2) ((l3 >>> ((8 : Int32) &&& 31)) &&& (255 : Int32))) FL FR v s ∧ FI2 164 = FI 164 ∧ (∀ j, k ≤ j → j < g → FI2 154 (a + 2 + j) = FI 154 (m + j)) ∧ (∀ i, (i < a + 2 + k ∨ a + 2 + g ≤ i) → FI2 154 i = FI 154 i) := by
  intro u
  induction u with
  | zero => intro l5 n sl SH FI FL FR v s k h; exact h.elim
  | succ u ih =>
    intro l5 n sl SH FI FL FR v s k h hl hk
    have e1 : ((l1) + ((2 : Int32))).toInt = a + 2 := i_add ha (by decide : ((2 : Int32)).toInt = 2) (by omega) (by omega)
    rcases h with ⟨h1, h⟩ | ⟨h1, h⟩
    · replace h := h.2.2
      have hk1 : (l5 + 1).toInt = ((k + 1 : Nat) : Int) := by
        rw [i_add hl (by decide : ((1 : Int32)).toInt = 1) (by omega) (by omega)]; omega
      have e2 : (((l1) + ((2 : Int32))) + l5).toInt.toNat = a + 2 + k := by
        rw [i_add e1 hl (by omega) (by omega)]; omega
      have e3 : (l2 + l5).toInt.toNat = m + k := by
        rw [i_add hm hl (by omega) (by omega)]; omega
      obtain ⟨F2, q1, q2, q3, q4⟩ := ih (l5 + 1) n sl SH _ FL FR v s (k + 1) h hk1 (by omega)
      refine ⟨F2, q1, ?_, fun j h2 h3 => ?_, fun i h2 => ?_⟩
      · rw [q2, h_up_nc (by decide)]
      · by_cases hj : j = k
        · subst hj
          rw [q4 _ (Or.inl (by omega)), e2, h_up_eq, e3]
        · rw [q3 j (by omega) h3, e2, h_up_ne (by omega)]
      · rw [q4 i (by omega), e2, h_up_ne (by omega)]
    · replace h := h.2.2.2
      have e2 : (((l1) + ((2 : Int32))) + l4).toInt = a + 2 + g := i_add e1 hg (by omega) (by omega)
      have e3 : ((((l1) + ((2 : Int32))) + l4) + ((1 : Int32))).toInt = a + 2 + g + 1 := i_add e2 (by decide : ((1 : Int32)).toInt = 1) (by omega) (by omega)
      have e4 : ((((l1) + ((2 : Int32))) + l4) + ((2 : Int32))).toInt = a + 2 + g + 2 := i_add e2 (by decide : ((2 : Int32)).toInt = 2) (by omega) (by omega)
      rw [e2, e3, e4, show ((a : Int) + 2 + g).toNat = a + 2 + g by omega, show ((a : Int) + 2 + g + 1).toNat = a + 2 + g + 1 by omega, show ((a : Int) + 2 + g + 2).toNat = a + 2 + g + 2 by omega] at h
      refine ⟨FI, h, rfl, fun j h2 h3 => ?_, fun i _ => rfl⟩
      exfalso; omega
theorem tu_191 {a f g p : Nat} {l1 l3 l4 l5 : Int32} (ha : l1.toInt = a) (hf : l3.toInt = f) (hg : l4.toInt = g) (hp : l5.toInt = p) (hb : a ≤ 5000) (hbf : f ≤ 5000) (hbp : p ≤ 9000) (hap : a + 2 ≤ p) (hbg : g ≤ 5000) : ∀ (u : Nat) (l6 : Int32) (n sl : Nat) (SH : Nat → Nat × Nat) (FI : Nat → Nat → Int32) (FL : Nat → Nat → Int64) (FR : Nat → Nat → Option Nat) (v : Unit) (s : hS) (k : Nat), GX12_turned_191 u l1 l3 l4 l5 l6 n sl SH FI FL FR v s → l6.toInt = k → k ≤ f → (s.2.2.2.1 154 a).toInt = ((g : Int) + 3) % 256 ∧ (s.2.2.2.1 154 (a + 1)).toInt = ((g : Int) + 3) / 256 % 256 ∧ (∀ j, k ≤ j → j < f → s.2.2.2.1 154 (p + 3 + j) = FI 164 j) ∧ (∀ i, i ≠ a → i ≠ a + 1 → (i < p + 3 + k ∨ p + 3 + f ≤ i) → s.2.2.2.1 154 i = FI 154 i) := by
  intro u
  induction u with
  | zero => intro l6 n sl SH FI FL FR v s k h; exact h.elim
  | succ u ih =>
    intro l6 n sl SH FI FL FR v s k h hl hk
    rcases h with ⟨h1, h⟩ | ⟨h1, h⟩
    · replace h := h.2.2
      have hk1 : (l6 + 1).toInt = ((k + 1 : Nat) : Int) := by
        rw [i_add hl (by decide : ((1 : Int32)).toInt = 1) (by omega) (by omega)]; omega
      have e1 : (l5 + (3 : Int32)).toInt = p + 3 := i_add hp (by decide : ((3 : Int32)).toInt = 3) (by omega) (by omega)
      have e2 : ((l5 + (3 : Int32)) + l6).toInt.toNat = p + 3 + k := by
        rw [i_add e1 hl (by omega) (by omega)]; omega
      have e3 : l6.toInt.toNat = k := by omega
      obtain ⟨q1, q2, q3, q4⟩ := ih (l6 + 1) n sl SH _ FL FR v s (k + 1) h hk1 (by omega)
      refine ⟨q1, q2, fun j h2 h3 => ?_, fun i h2 h3 h4 => ?_⟩
      · by_cases hj : j = k
        · subst hj
          rw [q4 _ (by omega) (by omega) (Or.inl (by omega)), e2, h_up_eq, e3]
        · rw [q3 j (by omega) h3, h_up_nc (by decide)]
      · rw [q4 i h2 h3 (by omega), e2, h_up_ne (by omega)]
    · replace h := h.2.2
      obtain ⟨-, rfl⟩ := h
      have e1 : l1.toInt.toNat = a := by omega
      have e2 : (l1 + (1 : Int32)).toInt.toNat = a + 1 := by
        rw [i_add ha (by decide : ((1 : Int32)).toInt = 1) (by omega) (by omega)]; omega
      have e3 : (l4 + (3 : Int32)).toInt = g + 3 := i_add hg (by decide : ((3 : Int32)).toInt = 3) (by omega) (by omega)
      refine ⟨?_, ?_, fun j h2 h3 => ?_, fun i h2 h3 h4 => ?_⟩
      · try dsimp only
        rw [e1, e2, h_up_ne (by omega), h_up_eq, i_m255, e3]
      · try dsimp only
        rw [e1, e2, h_up_eq, i_m255, i_sh8 e3]
      · exfalso; omega
      · try dsimp only
        rw [e1, e2, h_up_ne h3, h_up_ne h2]
end TU
