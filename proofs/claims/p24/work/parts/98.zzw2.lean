/-! NUMBERS of bytes, from both ends. -/
theorem l_shl (y : Int64) : ∀ k : Nat, k < 8 → (y <<< (Int64.ofNat (8 * k))).toBitVec = y.toBitVec <<< (8 * k)
  | 0, _ => by rw [Int64.toBitVec_shiftLeft]; rfl
  | 1, _ => by rw [Int64.toBitVec_shiftLeft]; rfl
  | 2, _ => by rw [Int64.toBitVec_shiftLeft]; rfl
  | 3, _ => by rw [Int64.toBitVec_shiftLeft]; rfl
  | 4, _ => by rw [Int64.toBitVec_shiftLeft]; rfl
  | 5, _ => by rw [Int64.toBitVec_shiftLeft]; rfl
  | 6, _ => by rw [Int64.toBitVec_shiftLeft]; rfl
  | 7, _ => by rw [Int64.toBitVec_shiftLeft]; rfl
  | k + 8, h => by omega
theorem l_k8 : ∀ k : Nat, k < 8 → ((((8 : Int32)) * Int32.ofNat k).toInt64 &&& 63) = Int64.ofNat (8 * k) := by decide
theorem ms_le_c (b : Int32) (r : List Int32) : (ms_le (b :: r)).toBitVec = ((ms_le r).toBitVec <<< 8) ||| b.toInt64.toBitVec := by
  show ((ms_le r <<< (((8 : Int32)).toInt64 &&& 63)) ||| b.toInt64).toBitVec = _
  rw [Int64.toBitVec_or, show (((8 : Int32)).toInt64 &&& 63) = Int64.ofNat (8 * 1) from by decide, l_shl _ 1 (by decide)]
theorem ms_le_b : ∀ (l : List Int32) (b : Int32), l.length ≤ 7 → (ms_le (l ++ [b])).toBitVec = (ms_le l).toBitVec ||| (b.toInt64.toBitVec <<< (8 * l.length))
  | [], b, _ => by
    show (ms_le (b :: [])).toBitVec = _
    rw [ms_le_c]
    show ((0 : Int64).toBitVec <<< 8) ||| b.toInt64.toBitVec = (0 : Int64).toBitVec ||| (b.toInt64.toBitVec <<< 0)
    simp
  | x :: r, b, h => by
    have ih := ms_le_b r b (by simp only [List.length_cons] at h; omega)
    show (ms_le (x :: (r ++ [b]))).toBitVec = _
    rw [ms_le_c, ih, ms_le_c, BitVec.shiftLeft_or_distrib, ← BitVec.shiftLeft_add]
    rw [show 8 * r.length + 8 = 8 * (x :: r).length by simp only [List.length_cons]; omega]
    rw [BitVec.or_assoc, BitVec.or_assoc, BitVec.or_comm (b.toInt64.toBitVec <<< _)]
theorem ms_le_app {l : List Int32} {b : Int32} (h : l.length ≤ 7) : ms_le (l ++ [b]) = ms_le l ||| (b.toInt64 <<< ((((8 : Int32)) * Int32.ofNat l.length).toInt64 &&& 63)) := by
  apply Int64.toBitVec_inj.mp
  rw [ms_le_b l b h, Int64.toBitVec_or, l_k8 _ (by omega), l_shl _ _ (by omega)]
/-- bytes of an int[] -/
def bk0 (FI : Nat → Nat → Int32) (SH : Nat → Nat × Nat) (r A : Nat) (L : List Int32) : Prop := 0 ≤ (SH r).1 ∧ A + L.length ≤ (SH r).2 ∧ (SH r).2 ≤ 2000000000 ∧ ∀ i b, L[i]? = some b → FI r (A + i) = b ∧ 0 ≤ b.toInt ∧ b.toInt ≤ 255
/-- a row of bytes that is never written again: the reference's, or one of the class's own -/
def rw0 (SH : Nat → Nat × Nat) (r : Nat) : Prop := 0 ≤ (SH r).1 ∧ (r = 124 ∨ (27 ≤ r ∧ r ≤ 47) ∨ 176 ≤ r)
def bk (FI : Nat → Nat → Int32) (SH : Nat → Nat × Nat) (r A : Nat) (L : List Int32) : Prop := rw0 SH r ∧ A + L.length ≤ (SH r).2 ∧ (SH r).2 ≤ 2000000000 ∧ ∀ i b, L[i]? = some b → FI r (A + i) = b ∧ 0 ≤ b.toInt ∧ b.toInt ≤ 255
theorem bk_0 {FI : Nat → Nat → Int32} {SH : Nat → Nat × Nat} {r A : Nat} {L : List Int32} (h : bk FI SH r A L) : bk0 FI SH r A L := ⟨h.1.1, h.2⟩
theorem bk_fr {FI F2 : Nat → Nat → Int32} {SH : Nat → Nat × Nat} {r A : Nat} {L : List Int32} (h : bk FI SH r A L) (e : F2 r = FI r) : bk F2 SH r A L := by
  unfold bk
  rw [e]
  exact h
theorem ms_tk {bs : List Int32} {p i k : Nat} {b : Int32} (h : bs[p + i]? = some b) (hi : i < k) : (bs.drop p).take (i + 1) = (bs.drop p).take i ++ [b] := by
  have h2 : (bs.drop p)[i]? = some b := by rw [List.getElem?_drop]; exact h
  rw [List.take_add_one, h2]
  rfl
theorem ms_dp {bs : List Int32} {p i n : Nat} {b : Int32} (h : bs[p + i]? = some b) (hi : i < n) : ((bs.drop p).take n).drop i = b :: ((bs.drop p).take n).drop (i + 1) := by
  have h2 : ((bs.drop p).take n)[i]? = some b := by rw [List.getElem?_take_of_lt hi, List.getElem?_drop]; exact h
  obtain ⟨hl, e⟩ := List.getElem?_eq_some_iff.mp h2
  rw [List.drop_eq_getElem_cons hl, e]
theorem ms_ln {bs : List Int32} {p n : Nat} (h : p + n ≤ bs.length) : ((bs.drop p).take n).length = n := by
  rw [List.length_take, List.length_drop]
  omega
theorem ms_ex_i {bs : List Int32} {i : Nat} (h : i < bs.length) : ∃ b, bs[i]? = some b := ⟨_, List.getElem?_eq_getElem h⟩
section CN
variable {n sl : Nat} {SH : Nat → Nat × Nat} {FI : Nat → Nat → Int32} {FL : Nat → Nat → Int64} {FR : Nat → Nat → Option Nat}
/-- the class's number, from the lowest byte on -/
theorem cn_5 {r A p k : Nat} {bs : List Int32} {a2 a3 : Int32} (hb : bk0 FI SH r A bs) (h2 : a2.toInt = ((A + p : Nat) : Int)) (h3 : a3.toInt = k) (hk : k ≤ 8) (hp : p + k ≤ bs.length) : ∀ (g i : Nat) (l3l : Int64) (l5i : Int32) (v : Int64) (s : hS), l5i.toInt = i → i ≤ k → l3l = ms_le ((bs.drop p).take i) → GX11_number_5 (some r) a2 a3 g l3l l5i n sl SH FI FL FR v s → v = ms_le ((bs.drop p).take k) ∧ s = (n, sl, SH, FI, FL, FR) := by
  intro g
  induction g with
  | zero => intro i l3l l5i v s _ _ _ h; exact h.elim
  | succ g ih =>
    intro i l3l l5i v s hi hik hl h
    obtain ⟨b1, b2, b3, b4⟩ := hb
    rcases h with ⟨h0, h⟩ | ⟨h0, e1, e2⟩
    · rcases h with ⟨-, h⟩ | ⟨h8, -, -⟩
      · have hx : (a2 + l5i).toInt = ((A + (p + i) : Nat) : Int) := by rw [i_add h2 hi (by omega) (by omega)]; omega
        rcases h with ⟨hn, -⟩ | ⟨-, h⟩
        · exfalso; omega
        · obtain ⟨q, eq, h⟩ := h
          cases eq
          rw [i_lit (by omega)] at h
          rcases h with ⟨-, h⟩ | ⟨hn, -⟩
          · obtain ⟨q2, eq2, -, h⟩ := h
            cases eq2
            have hx2 : (a2 + l5i).toInt.toNat = A + (p + i) := by omega
            rw [hx2] at h
            obtain ⟨b, hb0⟩ := ms_ex_i (bs := bs) (i := p + i) (by omega)
            have f1 := (b4 (p + i) b hb0).1
            rw [f1] at h
            refine ih (i + 1) _ _ v s (by rw [i_add hi (by decide : ((1 : Int32)).toInt = 1) (by omega) (by omega)]; omega) (by omega) ?_ h
            have el : ((bs.drop p).take i).length = i := ms_ln (by omega)
            rw [ms_tk hb0 (Nat.lt_succ_self i), ms_le_app (by omega), el, hl, show l5i = Int32.ofNat i from i_eqv (by rw [hi, i_lit (by omega)])]
          · exfalso; omega
      · exfalso
        rw [show ((8 : Int32)).toInt = 8 by decide] at h8
        omega
    · have e : i = k := by omega
      subst e
      exact ⟨e1.trans hl, e2⟩
theorem cn_num {r A p k : Nat} {bs : List Int32} {a2 a3 : Int32} {v : Int64} {s : hS} (hb : bk0 FI SH r A bs) (h2 : a2.toInt = ((A + p : Nat) : Int)) (h3 : a3.toInt = k) (hk : k ≤ 8) (hp : p + k ≤ bs.length) (h : RX11_number (some r) a2 a3 n sl SH FI FL FR v s) : v = ms_le ((bs.drop p).take k) ∧ s = (n, sl, SH, FI, FL, FR) := by
  obtain ⟨g, h⟩ := h
  exact cn_5 hb h2 h3 hk hp g 0 _ _ v s (by decide) (by omega) rfl h
/-- the reference's, from the highest byte on -/
theorem rn_30 {A p k : Nat} {bs : List Int32} {a1 a2 : Int32} (hb : bk FI SH 124 A bs) (h2 : a1.toInt = ((A + p : Nat) : Int)) (hk : k ≤ 8) (hp : p + k ≤ bs.length) : ∀ (g i : Nat) (l3l : Int64) (l5i : Int32) (v : Int64) (s : hS), l5i.toInt = (i : Int) - 1 → i ≤ k → l3l = ms_le (((bs.drop p).take k).drop i) → GX12_number_7 a1 a2 g l3l l5i n sl SH FI FL FR v s → v = ms_le ((bs.drop p).take k) ∧ s = (n, sl, SH, FI, FL, FR) := by
  intro g
  induction g with
  | zero => intro i l3l l5i v s _ _ _ h; exact h.elim
  | succ g ih =>
    intro i l3l l5i v s hi hik hl h
    obtain ⟨b1, b2, b3, b4⟩ := hb
    rcases h with ⟨h0, e1, e2⟩ | ⟨h0, -, h⟩
    · have e : i = 0 := by omega
      subst e
      exact ⟨e1.trans hl, e2⟩
    · cases i with
      | zero => exfalso; omega
      | succ i =>
        have hx : (a1 + l5i).toInt = ((A + (p + i) : Nat) : Int) := by rw [i_add h2 hi (by omega) (by omega)]; omega
        have hx2 : (a1 + l5i).toInt.toNat = A + (p + i) := by omega
        rw [hx2] at h
        obtain ⟨b, hb0⟩ := ms_ex_i (bs := bs) (i := p + i) (by omega)
        have f1 := (b4 (p + i) b hb0).1
        rw [f1] at h
        refine ih i _ _ v s (by rw [i_add hi (by decide : ((-1 : Int32)).toInt = -1) (by omega) (by omega)]; omega) (by omega) ?_ h
        rw [hl, ms_dp hb0 (by omega)]
        rfl
theorem rn_num {A p k : Nat} {bs : List Int32} {a1 a2 : Int32} {v : Int64} {s : hS} (hb : bk FI SH 124 A bs) (h1 : a1.toInt = ((A + p : Nat) : Int)) (h2 : a2.toInt = k) (hk : k ≤ 8) (hp : p + k ≤ bs.length) (h : RX12_number a1 a2 n sl SH FI FL FR v s) : v = ms_le ((bs.drop p).take k) ∧ s = (n, sl, SH, FI, FL, FR) := by
  obtain ⟨g, h⟩ := h
  refine rn_30 hb h1 hk hp g k _ _ v s ?_ (Nat.le_refl _) ?_ h
  · rw [i_sub h2 (by decide : ((1 : Int32)).toInt = 1) (by omega) (by omega)]
  · rw [List.drop_of_length_le (by rw [ms_ln hp]; exact Nat.le_refl _)]
    rfl
end CN
