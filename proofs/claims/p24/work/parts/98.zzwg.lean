/-! THE REFERENCE'S RESULTS. -/
/-- a result: are there pieces, and the parts (the last one first) -/
abbrev ms_Q := Bool × List ms_P
def ms_fin (s : ms_S) : Int ⊕ ms_Q := if s.2.2 ≠ [] then (if s.2.1.1 ≠ 0 ∨ s.1 ≠ [] then .inl 13 else .inr (true, s.2.2)) else .inr (false, [(ms_tg s, 0, 0)])
def ms_en (q : Int ⊕ (Nat × ms_S)) : Int ⊕ ms_Q := match q with
  | .inl e => .inl e
  | .inr y => ms_fin y.2
/-- part i of the reference -/
def rp (FI : Nat → Nat → Int32) (FL : Nat → Nat → Int64) (i : Nat) (p : ms_P) : Prop := (FI 143 i).toInt = p.1.1 ∧ FL 144 i = p.1.2.1 ∧ (FI 145 i).toInt = p.2.1 ∧ (FI 146 i).toInt = p.2.2 ∧ ms_ok p.1 ∧ (0 ≤ p.2.1 ∧ p.2.1 ≤ 4096 ∧ 0 ≤ p.2.2 ∧ p.2.2 ≤ 4096) ∧ p.1.2.2.length ≤ 600 ∧ ∀ k b, p.1.2.2[k]? = some b → FI 147 (600 * i + k) = b ∧ 0 ≤ b.toInt ∧ b.toInt ≤ 255
def rr (FI : Nat → Nat → Int32) (FL : Nat → Nat → Int64) (Q : ms_Q) : Prop := (FI 121 46).toInt = Q.2.length ∧ ((FI 121 47).toInt = 0 ↔ Q.1 = false) ∧ (1 ≤ Q.2.length ∧ Q.2.length ≤ 16) ∧ (Q.1 = false → Q.2.length = 1) ∧ lv (fun i p => rp FI FL i p) Q.2
section RP
variable {n sl : Nat} {SH : Nat → Nat × Nat} {FI F2 : Nat → Nat → Int32} {FL L2 : Nat → Nat → Int64} {FR : Nat → Nat → Option Nat} {u : Unit} {st : hS}
/-- the other parts stay -/
def pf (i : Nat) (FI : Nat → Nat → Int32) (FL : Nat → Nat → Int64) (F2 : Nat → Nat → Int32) (L2 : Nat → Nat → Int64) : Prop := (∀ c, c ≠ 143 → c ≠ 145 → c ≠ 146 → c ≠ 147 → F2 c = FI c) ∧ (∀ c, c ≠ 144 → L2 c = FL c) ∧ (∀ j, j ≠ i → F2 143 j = FI 143 j ∧ F2 145 j = FI 145 j ∧ F2 146 j = FI 146 j ∧ L2 144 j = FL 144 j) ∧ (∀ m, m < 600 * i ∨ 600 * i + 600 ≤ m → F2 147 m = FI 147 m)
theorem rp_fr {j i : Nat} {p : ms_P} (h : rp FI FL j p) (k : pf i FI FL F2 L2) (hj : j ≠ i) : rp F2 L2 j p := by
  obtain ⟨h1, h2, h3, h4, h5, h6, h7, h8⟩ := h
  obtain ⟨k1, k2, k3, k4⟩ := k
  obtain ⟨e1, e2, e3, e4⟩ := k3 j hj
  refine ⟨by rw [e1]; exact h1, by rw [e4]; exact h2, by rw [e2]; exact h3, by rw [e3]; exact h4, h5, h6, h7, fun m b hm => ?_⟩
  have hl := (List.getElem?_eq_some_iff.mp hm).1
  rw [k4 (600 * j + m) (by omega)]
  exact h8 m b hm
theorem rp_57 {i D : Nat} {B : List Int32} {a1 a2 a4 a5 a6 : Int32} {a3 : Int64} (hi : a1.toInt = i) (hi2 : i < 16) (h3 : a3.toInt = D) (h6 : a6.toInt = B.length) (hB6 : B.length ≤ 600) : ∀ (g k : Nat) (l8 : Int32) (FI : Nat → Nat → Int32), l8.toInt = k → k ≤ B.length → bk FI SH 124 D B → (∀ j b, j < k → B[j]? = some b → FI 147 (600 * i + j) = b) → GX12_part_57 a1 a2 a3 a4 a5 a6 g l8 n sl SH FI FL FR u st → ∃ F2, st = (n, sl, SH, F2, FL, FR) ∧ (∀ c, c ≠ 147 → F2 c = FI c) ∧ (∀ m, m < 600 * i ∨ 600 * i + 600 ≤ m → F2 147 m = FI 147 m) ∧ (∀ j b, B[j]? = some b → F2 147 (600 * i + j) = b) := by
  intro g
  induction g with
  | zero => intro k l8 FI _ _ _ _ h; exact h.elim
  | succ g ih =>
    intro k l8 FI hk hkl hb hd h
    have b2 := hb.2.1
    have b3 := hb.2.2.1
    rcases h with ⟨h0, -, -, h⟩ | ⟨h0, -, e⟩
    · have e1 : (a3.toInt32 + l8).toInt = ((D + k : Nat) : Int) := by rw [i_add (l_2i h3 (by omega) (by omega)) hk (by omega) (by omega)]; omega
      have e2 : ((600 : Int32) * a1 + l8).toInt = ((600 * i + k : Nat) : Int) := by rw [i_add (i_mul (by decide : ((600 : Int32)).toInt = 600) hi (by omega) (by omega)) hk (by omega) (by omega)]; omega
      obtain ⟨b, hb0⟩ := ms_ex_i (bs := B) (i := k) (by omega)
      rw [show (a3.toInt32 + l8).toInt.toNat = D + k by omega, show ((600 : Int32) * a1 + l8).toInt.toNat = 600 * i + k by omega, (hb.2.2.2 k b hb0).1] at h
      obtain ⟨F2, q1, q2, q3, q4⟩ := ih (k + 1) _ _ (by rw [i_add hk (by decide : ((1 : Int32)).toInt = 1) (by omega) (by omega)]; omega) (by omega) (bk_fr hb (h_up_nc (by decide))) (fun j b9 hj hb9 => by
        by_cases ej : j = k
        · subst ej
          rw [h_up_eq]
          rw [hb0] at hb9
          exact Option.some.inj hb9
        · rw [h_up_ne (by omega)]
          exact hd j b9 (by omega) hb9) h
      exact ⟨F2, q1, fun c hc => by rw [q2 c hc, h_up_nc hc], fun m hm => by rw [q3 m hm, h_up_ne (by omega)], q4⟩
    · refine ⟨_, e, fun _ _ => rfl, fun _ _ => rfl, fun j b hj => hd j b ?_ hj⟩
      have := (List.getElem?_eq_some_iff.mp hj).1
      omega
theorem r_part {i : Nat} {T : ms_H} {w f : Int} {a1 a2 a4 a5 a6 : Int32} {a3 : Int64} (hi : a1.toInt = i) (hi2 : i < 16) (hk : a2.toInt = T.1) (hok : ms_ok T) (hv : (T.1 = 1 ∨ T.1 = 2 ∨ T.1 = 3) → a3 = T.2.1) (h4 : T.1 = 4 → ∃ D : Nat, a3.toInt = D ∧ a6.toInt = T.2.2.length ∧ bk FI SH 124 D T.2.2) (hl : T.2.2.length ≤ 600) (hw : a4.toInt = w) (hf : a5.toInt = f) (hr : 0 ≤ w ∧ w ≤ 4096 ∧ 0 ≤ f ∧ f ≤ 4096) (h : RX12_part a1 a2 a3 a4 a5 a6 n sl SH FI FL FR u st) : ∃ F2 L2, st = (n, sl, SH, F2, L2, FR) ∧ rp F2 L2 i (T, w, f) ∧ pf i FI FL F2 L2 := by
  obtain ⟨-, h⟩ := h
  have ei : a1.toInt.toNat = i := by omega
  rw [ei, show ((4 : Int32)).toInt = 4 by decide, hk] at h
  have gen : ∀ z : Int64, (T.1 = 4 → z = a6.toInt64) → (T.1 = 0 → z = 0) → ((T.1 = 1 ∨ T.1 = 2 ∨ T.1 = 3) → z = a3) → RX12_part_32 a1 a2 a3 a4 a5 a6 z a1 n sl SH (h_up FI 143 i a2) FL FR u st → ∃ F2 L2, st = (n, sl, SH, F2, L2, FR) ∧ rp F2 L2 i (T, w, f) ∧ pf i FI FL F2 L2 := by
    intro z z4 z0 z1 h
    obtain ⟨-, -, -, h⟩ := h
    rw [ei, show ((4 : Int32)).toInt = 4 by decide, hk] at h
    have ez : z = T.2.1 := by
      rcases hok with q | q | q | q | q
      · rw [z0 q.1, q.2]; rfl
      · rw [z1 (Or.inl q.1), hv (Or.inl q.1)]
      · rw [z1 (Or.inr (Or.inl q.1)), hv (Or.inr (Or.inl q.1))]
      · rw [z1 (Or.inr (Or.inr q.1)), hv (Or.inr (Or.inr q.1))]
      · obtain ⟨D, d1, d2, d3⟩ := h4 q.1
        rw [z4 q.1]
        exact Int64.toInt_inj.mp (by rw [i_2l d2]; exact q.2.symm)
    rcases h with ⟨g4, g, h⟩ | ⟨g4, -, e⟩
    · obtain ⟨D, d1, d2, d3⟩ := h4 g4
      obtain ⟨F2, q1, q2, q3, q4⟩ := rp_57 (i := i) hi hi2 d1 d2 hl g 0 _ _ (by decide) (Nat.zero_le _) (bk_fr d3 (by rw [h_up_nc (by decide), h_up_nc (by decide), h_up_nc (by decide)])) (fun j b hj => by omega) h
      refine ⟨F2, _, q1, ⟨?_, ?_, ?_, ?_, hok, hr, hl, fun k b hkb => ⟨q4 k b hkb, (d3.2.2.2 k b hkb).2⟩⟩, fun c c1 c2 c3 c4 => ?_, fun c hc => h_up_nc hc, fun j hj => ⟨?_, ?_, ?_, h_up_ne hj⟩, fun m hm => ?_⟩
      · rw [q2 143 (by decide), h_up_nc (by decide), h_up_nc (by decide), h_up_eq]; exact hk
      · rw [h_up_eq]; exact ez
      · rw [q2 145 (by decide), h_up_nc (by decide), h_up_eq]; exact hw
      · rw [q2 146 (by decide), h_up_eq]; exact hf
      · rw [q2 c c4, h_up_nc c3, h_up_nc c2, h_up_nc c1]
      · rw [q2 143 (by decide), h_up_nc (by decide), h_up_nc (by decide), h_up_ne hj]
      · rw [q2 145 (by decide), h_up_nc (by decide), h_up_ne hj, h_up_nc (by decide)]
      · rw [q2 146 (by decide), h_up_ne hj, h_up_nc (by decide), h_up_nc (by decide)]
      · rw [q3 m hm, h_up_nc (by decide), h_up_nc (by decide), h_up_nc (by decide)]
    · have hnil : T.2.2 = [] := by
        rcases hok with q | q | q | q | q
        · rw [q.2]; rfl
        · exact q.2
        · exact q.2.1
        · exact q.2
        · exact absurd q.1 g4
      refine ⟨_, _, e, ⟨?_, ?_, ?_, ?_, hok, hr, hl, fun k b hkb => ?_⟩, fun c c1 c2 c3 c4 => ?_, fun c hc => h_up_nc hc, fun j hj => ⟨?_, ?_, ?_, h_up_ne hj⟩, fun m hm => ?_⟩
      · rw [h_up_nc (by decide), h_up_nc (by decide), h_up_eq]; exact hk
      · rw [h_up_eq]; exact ez
      · rw [h_up_nc (by decide), h_up_eq]; exact hw
      · rw [h_up_eq]; exact hf
      · (try dsimp only at hkb)
        rw [hnil] at hkb
        simp at hkb
      · rw [h_up_nc c3, h_up_nc c2, h_up_nc c1]
      · rw [h_up_nc (by decide), h_up_nc (by decide), h_up_ne hj]
      · rw [h_up_nc (by decide), h_up_ne hj, h_up_nc (by decide)]
      · rw [h_up_ne hj, h_up_nc (by decide), h_up_nc (by decide)]
      · rw [h_up_nc (by decide), h_up_nc (by decide), h_up_nc (by decide)]
  rcases h with ⟨g4, h⟩ | ⟨g4, h⟩
  · exact gen _ (fun _ => rfl) (fun e => by omega) (fun e => by omega) h
  · rcases h with ⟨g0, h⟩ | ⟨g0, h⟩
    · exact gen _ (fun e => absurd e g4) (fun _ => rfl) (fun e => by omega) h
    · exact gen _ (fun e => absurd e g4) (fun e => absurd e g0) (fun _ => rfl) h
end RP
