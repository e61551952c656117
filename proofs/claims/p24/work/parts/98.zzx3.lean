/-! THE CLASS CHECKS, AND OPERATES. -/
def ms_ck (c : Int) (x : ms_O) (s : ms_S) : Int :=
  if s.2.1.1 ≠ 0 ∧ ¬ (c = 147 ∨ c = 157 ∨ c = 150 ∨ c = 47 ∨ c = 152 ∨ c = 153) then 9
  else if (c = 144 ∨ c = 146) ∧ (x.1.toInt < 0 ∨ 31 < x.1.toInt) then 14
  else if c = 148 ∧ (x.1.toInt < 1 ∨ 8 < x.1.toInt) then 10
  else if (c = 147 ∨ c = 157) ∧ ms_pc c x.1 x.2.1 s = none then 13
  else if (s.1.length : Int) < ms_wt c x.1 then 3
  else 0
theorem c_gw {c : Int32} {SH : Nat → Nat × Nat} {FI : Nat → Nat → Int32} {FL : Nat → Nat → Int64} {FR : Nat → Nat → Option Nat} : (fX9_goesWithHold c SH FI FL FR).toInt = 0 ↔ ¬ (c.toInt = 147 ∨ c.toInt = 157 ∨ c.toInt = 150 ∨ c.toInt = 47 ∨ c.toInt = 152 ∨ c.toInt = 153) := by
  unfold fX9_goesWithHold
  simp only [Int32.reduceToInt]
  by_cases h1 : c.toInt = 147
  · rw [if_pos h1]; exact ⟨fun e => absurd e (by first | decide | simp), fun e => absurd (Or.inl h1) e⟩
  rw [if_neg h1]
  by_cases h2 : c.toInt = 157
  · rw [if_pos h2]; exact ⟨fun e => absurd e (by first | decide | simp), fun e => by omega⟩
  rw [if_neg h2]
  by_cases h3 : c.toInt = 150
  · rw [if_pos h3]; exact ⟨fun e => absurd e (by first | decide | simp), fun e => by omega⟩
  rw [if_neg h3]
  by_cases h4 : c.toInt = 47
  · rw [if_pos h4]; exact ⟨fun e => absurd e (by first | decide | simp), fun e => by omega⟩
  rw [if_neg h4]
  by_cases h5 : c.toInt = 152
  · rw [if_pos h5]; exact ⟨fun e => absurd e (by first | decide | simp), fun e => by omega⟩
  rw [if_neg h5]
  by_cases h6 : c.toInt = 153
  · rw [if_pos h6]; exact ⟨fun e => absurd e (by first | decide | simp), fun e => by omega⟩
  rw [if_neg h6]
  exact ⟨fun _ => by omega, fun _ => by first | decide | simp⟩
theorem pc_n {c : Int} {a b : Int64} {s : ms_S} : ms_pc c a b s = none ↔ (s.2.2.length = 16 ∨ a.toInt < 0 ∨ (if c = 157 then 4096 else 512) < a.toInt ∨ (c = 157 ∧ (b.toInt < 0 ∨ 4096 < b.toInt)) ∨ 4096 < ms_tb s.2.2 + (if c = 157 then a.toInt else 8 * a.toInt)) := by
  unfold ms_pc
  by_cases h : (s.2.2.length = 16 ∨ a.toInt < 0 ∨ (if c = 157 then 4096 else 512) < a.toInt ∨ (c = 157 ∧ (b.toInt < 0 ∨ 4096 < b.toInt)) ∨ 4096 < ms_tb s.2.2 + (if c = 157 then a.toInt else 8 * a.toInt))
  · rw [if_pos h]; exact ⟨fun _ => h, fun _ => rfl⟩
  · rw [if_neg h]; exact ⟨fun e => (by cases e), fun e => absurd e h⟩
theorem wt_p {c : Int} {a : Int64} (h : c = 147 ∨ c = 157) : ms_wt c a = 0 := by
  unfold ms_wt
  rw [if_neg (by omega), if_neg (by omega), if_neg (by omega), if_neg (by omega), if_neg (by omega)]
section CKI
variable {n sl : Nat} {SH : Nat → Nat × Nat} {FI F1 : Nat → Nat → Int32} {FL L1 : Nat → Nat → Int64} {FR R1 : Nat → Nat → Option Nat} {c v : Int32} {st : hS} {s : ms_S} {x : ms_O} {E : ms_E}
theorem c_wantI {a : Int64} (ha : FL 49 12 = a) (h21 : c.toInt = 21 → 0 ≤ a.toInt ∧ a.toInt ≤ 255) : (fX9_wantedI c SH FI FL FR).toInt = ms_wt c.toInt a := by
  unfold fX9_wantedI ms_wt
  simp only [Int32.reduceToInt]
  by_cases h1 : c.toInt = 6 ∨ c.toInt = 18 ∨ c.toInt = 19 ∨ c.toInt = 25 ∨ c.toInt = 31 ∨ c.toInt = 32 ∨ c.toInt = 35 ∨ c.toInt = 40 ∨ c.toInt = 148 ∨ c.toInt = 155 ∨ c.toInt = 159
  · rw [if_pos h1, if_pos h1]; decide
  rw [if_neg h1, if_neg h1]
  by_cases h2 : c.toInt = 20 ∨ c.toInt = 22
  · rw [if_pos h2, if_pos h2]; decide
  rw [if_neg h2, if_neg h2]
  by_cases h3 : c.toInt = 21
  · rw [if_pos h3, if_pos h3, ha, i_add (l_2i rfl (by have := h21 h3; omega) (by have := h21 h3; omega)) (by first | decide | simp : ((1 : Int32)).toInt = 1) (by have := h21 h3; omega) (by have := h21 h3; omega)]
  rw [if_neg h3, if_neg h3]
  by_cases h4 : c.toInt = 23
  · rw [if_pos h4, if_pos h4]; decide
  rw [if_neg h4, if_neg h4]
  by_cases h5 : c.toInt < 26
  · rw [if_pos h5, if_neg (by omega)]; decide
  rw [if_neg h5]
  by_cases h6 : 46 < c.toInt
  · rw [if_pos h6, if_neg (by omega)]; decide
  rw [if_neg h6, if_pos (by omega)]; decide
theorem c_muchI (hv : cvI FI FL FR SH s) (hc : c.toInt = 147 ∨ c.toInt = 157) (h12 : FL 49 12 = x.1) (h13 : c.toInt = 157 → FL 49 13 = x.2.1) : (fX9_isTooMuchI c SH FI FL FR).toInt = 0 ↔ ms_pc c.toInt x.1 x.2.1 s ≠ none := by
  obtain ⟨v1, v2, v3, v4, v5, v6, v7, v8, v9, v10⟩ := hv
  rw [ne_eq, pc_n]
  unfold fX9_isTooMuchI
  have z1 : (((4096 : Int32)) / ((8 : Int32))).toInt64.toInt = 512 := by first | decide | simp
  have z2 : (((4096 : Int32)) / ((1 : Int32))).toInt64.toInt = 4096 := by first | decide | simp
  rw [z1, z2, h12, v5]
  simp only [Int32.reduceToInt, Int64.reduceToInt]
  rcases hc with hc | hc
  · rw [if_pos hc, if_neg (show ¬ c.toInt = 157 by omega), if_neg (show ¬ c.toInt = 157 by omega), if_neg (show ¬ c.toInt = 157 by omega)]
    by_cases g1 : (s.2.2.length : Int) < 16
    · rw [if_pos g1]
      by_cases g2 : x.1.toInt < 0
      · rw [if_pos g2]; exact ⟨fun e => absurd e (by first | decide | simp), fun e => by omega⟩
      rw [if_neg g2]
      by_cases g3 : 512 < x.1.toInt
      · rw [if_pos g3]; exact ⟨fun e => absurd e (by first | decide | simp), fun e => by omega⟩
      rw [if_neg g3]
      have e8 : (((FI 52 2).toInt64) + (x.1 * (((8 : Int32)).toInt64))).toInt = ms_tb s.2.2 + 8 * x.1.toInt := by
        rw [l_add (i_2l v7) (l_mul rfl (by first | decide | simp : (((8 : Int32)).toInt64).toInt = 8) (by omega) (by omega)) (by omega) (by omega)]
        omega
      rw [e8]
      by_cases g4 : 4096 < ms_tb s.2.2 + 8 * x.1.toInt
      · rw [if_pos g4]; exact ⟨fun e => absurd e (by first | decide | simp), fun e => by omega⟩
      · rw [if_neg g4]; exact ⟨fun _ => by omega, fun _ => by first | decide | simp⟩
    · rw [if_neg g1]; exact ⟨fun e => absurd e (by first | decide | simp), fun e => by omega⟩
  · rw [if_neg (show ¬ c.toInt = 147 by omega), if_pos hc, if_pos hc, if_pos hc, h13 hc]
    by_cases g1 : (s.2.2.length : Int) < 16
    · rw [if_pos g1]
      by_cases g2 : x.1.toInt < 0
      · rw [if_pos g2]; exact ⟨fun e => absurd e (by first | decide | simp), fun e => by omega⟩
      rw [if_neg g2]
      by_cases g3 : 4096 < x.1.toInt
      · rw [if_pos g3]; exact ⟨fun e => absurd e (by first | decide | simp), fun e => by omega⟩
      rw [if_neg g3]
      by_cases g5 : x.2.1.toInt < 0
      · rw [if_pos g5]; exact ⟨fun e => absurd e (by first | decide | simp), fun e => by omega⟩
      rw [if_neg g5]
      by_cases g6 : 4096 < x.2.1.toInt
      · rw [if_pos g6]; exact ⟨fun e => absurd e (by first | decide | simp), fun e => by omega⟩
      rw [if_neg g6]
      have e8 : (((FI 52 2).toInt64) + (x.1 * (((1 : Int32)).toInt64))).toInt = ms_tb s.2.2 + x.1.toInt := by
        rw [l_add (i_2l v7) (l_mul rfl (by first | decide | simp : (((1 : Int32)).toInt64).toInt = 1) (by omega) (by omega)) (by omega) (by omega)]
        omega
      rw [e8]
      by_cases g4 : 4096 < ms_tb s.2.2 + x.1.toInt
      · rw [if_pos g4]; exact ⟨fun e => absurd e (by first | decide | simp), fun e => by omega⟩
      · rw [if_neg g4]; exact ⟨fun _ => by omega, fun _ => by first | decide | simp⟩
    · rw [if_neg g1]; exact ⟨fun e => absurd e (by first | decide | simp), fun e => by omega⟩
theorem c_checkI (hv : cvI FI FL FR SH s) (h12 : FL 49 12 = x.1) (h13 : c.toInt = 157 → FL 49 13 = x.2.1) (h21 : c.toInt = 21 → 0 ≤ x.1.toInt ∧ x.1.toInt ≤ 255) (h : RX9_checkI c n sl SH FI FL FR v st) : v.toInt = ms_ck c.toInt x s ∧ st = (n, sl, SH, FI, FL, FR) := by
  have k0 := hv.2.2.2.1.1.1
  have ksz := hv.1
  unfold ms_ck
  unfold RX9_checkI at h
  rw [c_gw, k0] at h
  have go : ∀ _ : ¬ (s.2.1.1 ≠ 0 ∧ ¬ (c.toInt = 147 ∨ c.toInt = 157 ∨ c.toInt = 150 ∨ c.toInt = 47 ∨ c.toInt = 152 ∨ c.toInt = 153)), RX9_checkI_20 c n sl SH FI FL FR v st → v.toInt = (if (c.toInt = 144 ∨ c.toInt = 146) ∧ (x.1.toInt < 0 ∨ 31 < x.1.toInt) then 14 else if c.toInt = 148 ∧ (x.1.toInt < 1 ∨ 8 < x.1.toInt) then 10 else if (c.toInt = 147 ∨ c.toInt = 157) ∧ ms_pc c.toInt x.1 x.2.1 s = none then 13 else if (s.1.length : Int) < ms_wt c.toInt x.1 then 3 else 0) ∧ st = (n, sl, SH, FI, FL, FR) := by
    intro _ h
    have g112 : ∀ _ : ¬ ((c.toInt = 147 ∨ c.toInt = 157) ∧ ms_pc c.toInt x.1 x.2.1 s = none), RX9_checkI_112 c n sl SH FI FL FR v st → v.toInt = (if (c.toInt = 147 ∨ c.toInt = 157) ∧ ms_pc c.toInt x.1 x.2.1 s = none then 13 else if (s.1.length : Int) < ms_wt c.toInt x.1 then 3 else 0) ∧ st = (n, sl, SH, FI, FL, FR) := by
      intro q h
      unfold RX9_checkI_112 at h
      rw [c_wantI h12 h21, ksz] at h
      rw [if_neg q]
      rcases h with ⟨h0, e1, e⟩ | ⟨h0, e1, e⟩
      · rw [if_pos h0]; exact ⟨by rw [e1]; decide, e⟩
      · rw [if_neg h0]; exact ⟨by rw [e1]; decide, e⟩
    have g87 : RX9_checkI_87 c n sl SH FI FL FR v st → v.toInt = (if (c.toInt = 147 ∨ c.toInt = 157) ∧ ms_pc c.toInt x.1 x.2.1 s = none then 13 else if (s.1.length : Int) < ms_wt c.toInt x.1 then 3 else 0) ∧ st = (n, sl, SH, FI, FL, FR) := by
      intro h
      have g101 : ∀ _ : c.toInt = 147 ∨ c.toInt = 157, RX9_checkI_101 c n sl SH FI FL FR v st → v.toInt = (if (c.toInt = 147 ∨ c.toInt = 157) ∧ ms_pc c.toInt x.1 x.2.1 s = none then 13 else if (s.1.length : Int) < ms_wt c.toInt x.1 then 3 else 0) ∧ st = (n, sl, SH, FI, FL, FR) := by
        intro hc h
        unfold RX9_checkI_101 at h
        rw [c_muchI hv hc h12 h13] at h
        rcases h with ⟨h0, h⟩ | ⟨h0, e1, e⟩
        · exact g112 (fun e => h0 e.2) h
        · rw [if_pos ⟨hc, Classical.byContradiction h0⟩]
          exact ⟨by rw [e1]; decide, e⟩
      rcases h with ⟨g1, h⟩ | ⟨g1, h⟩
      · rw [show ((147 : Int32)).toInt = 147 by first | decide | simp] at g1
        exact g101 (Or.inl g1) h
      · rw [show ((147 : Int32)).toInt = 147 by first | decide | simp] at g1
        rcases h with ⟨g2, h⟩ | ⟨g2, h⟩
        · rw [show ((157 : Int32)).toInt = 157 by first | decide | simp] at g2
          exact g101 (Or.inr g2) h
        · rw [show ((157 : Int32)).toInt = 157 by first | decide | simp] at g2
          exact g112 (fun e => e.1.elim g1 g2) h
    have g57 : RX9_checkI_57 c n sl SH FI FL FR v st → v.toInt = (if c.toInt = 148 ∧ (x.1.toInt < 1 ∨ 8 < x.1.toInt) then 10 else if (c.toInt = 147 ∨ c.toInt = 157) ∧ ms_pc c.toInt x.1 x.2.1 s = none then 13 else if (s.1.length : Int) < ms_wt c.toInt x.1 then 3 else 0) ∧ st = (n, sl, SH, FI, FL, FR) := by
      intro h
      unfold RX9_checkI_57 at h
      rw [h12, show ((148 : Int32)).toInt = 148 by first | decide | simp, show ((1 : Int64)).toInt = 1 by first | decide | simp, show ((8 : Int64)).toInt = 8 by first | decide | simp] at h
      rcases h with ⟨g1, h⟩ | ⟨g1, h⟩
      · rcases h with ⟨g2, e1, e⟩ | ⟨g2, h⟩
        · rw [if_pos ⟨g1, Or.inl g2⟩]; exact ⟨by rw [e1]; decide, e⟩
        · rcases h with ⟨g3, e1, e⟩ | ⟨g3, h⟩
          · rw [if_pos ⟨g1, Or.inr g3⟩]; exact ⟨by rw [e1]; decide, e⟩
          · rw [if_neg (fun e => e.2.elim g2 g3)]; exact g87 h
      · rw [if_neg (fun e => g1 e.1)]; exact g87 h
    have g34 : ∀ _ : c.toInt = 144 ∨ c.toInt = 146, RX9_checkI_34 c n sl SH FI FL FR v st → v.toInt = (if (c.toInt = 144 ∨ c.toInt = 146) ∧ (x.1.toInt < 0 ∨ 31 < x.1.toInt) then 14 else if c.toInt = 148 ∧ (x.1.toInt < 1 ∨ 8 < x.1.toInt) then 10 else if (c.toInt = 147 ∨ c.toInt = 157) ∧ ms_pc c.toInt x.1 x.2.1 s = none then 13 else if (s.1.length : Int) < ms_wt c.toInt x.1 then 3 else 0) ∧ st = (n, sl, SH, FI, FL, FR) := by
      intro hc h
      unfold RX9_checkI_34 at h
      rw [h12, show ((0 : Int64)).toInt = 0 by first | decide | simp, show ((32 : Int64)).toInt = 32 by first | decide | simp] at h
      rcases h with ⟨g2, e1, e⟩ | ⟨g2, h⟩
      · rw [if_pos ⟨hc, Or.inl g2⟩]; exact ⟨by rw [e1]; decide, e⟩
      · rcases h with ⟨g3, h⟩ | ⟨g3, e1, e⟩
        · rw [if_neg (fun e => e.2.elim g2 (fun w => by omega))]; exact g57 h
        · rw [if_pos ⟨hc, Or.inr (by omega)⟩]; exact ⟨by rw [e1]; decide, e⟩
    rcases h with ⟨g1, h⟩ | ⟨g1, h⟩
    · rw [show ((144 : Int32)).toInt = 144 by first | decide | simp] at g1
      exact g34 (Or.inl g1) h
    · rw [show ((144 : Int32)).toInt = 144 by first | decide | simp] at g1
      rcases h with ⟨g2, h⟩ | ⟨g2, h⟩
      · rw [show ((146 : Int32)).toInt = 146 by first | decide | simp] at g2
        exact g34 (Or.inr g2) h
      · rw [show ((146 : Int32)).toInt = 146 by first | decide | simp] at g2
        rw [if_neg (fun e => e.1.elim g1 g2)]
        exact g57 h
  rcases h with ⟨h0, h⟩ | ⟨h0, h⟩
  · rw [if_neg (fun e => e.1 h0)]
    exact go (fun e => e.1 h0) h
  · rcases h with ⟨h1, e1, e⟩ | ⟨h1, h⟩
    · rw [if_pos ⟨h0, h1⟩]; exact ⟨by rw [e1]; decide, e⟩
    · rw [if_neg (fun e => h1 e.2)]
      exact go (fun e => h1 e.2) h
/-- operations one behind another -/
theorem crI_tr {q : Int ⊕ ms_S} (k : kzI FI FL FR F1 L1 R1) (e6 : F1 49 6 = FI 49 6) (e7 : F1 49 7 = FI 49 7) (e10 : F1 49 10 = FI 49 10) (e12 : L1 49 12 = FL 49 12) (e13 : L1 49 13 = FL 49 13) (h : crI n sl SH F1 L1 R1 v st q) : crI n sl SH FI FL FR v st q := by
  match q, h with
  | .inl e, ⟨h1, h2, F2, L2, R2, h3, h4⟩ => exact ⟨h1, h2, F2, L2, R2, h3, kzI_tr k h4⟩
  | .inr s2, ⟨h1, F2, L2, R2, h3, h4, h5, h6, h7, h8, h9, h10⟩ => exact ⟨h1, F2, L2, R2, h3, kzI_tr k h4, h5, h6.trans e6, h7.trans e7, h8.trans e10, h9.trans e12, h10.trans e13⟩
theorem crI_e {e : Int} (hv : v.toInt = e) (he : e ≠ 0) {F2 : Nat → Nat → Int32} {L2 : Nat → Nat → Int64} {R2 : Nat → Nat → Option Nat} (h : st = (n, sl, SH, F2, L2, R2)) (k : kzI FI FL FR F2 L2 R2) : crI n sl SH FI FL FR v st (.inl e) := ⟨hv, he, F2, L2, R2, h, k⟩
theorem cvI_hd {H : ms_H} {F2 : Nat → Nat → Int32} {L2 : Nat → Nat → Int64} {R2 : Nat → Nat → Option Nat} (hv : cvI FI FL FR SH s) (hr : rg SH) (e1 : ∀ r, r ≠ 51 → F2 r = FI r) (e2 : ∀ r, r ≠ 51 → L2 r = FL r) (e3 : ∀ r, r ≠ 51 → R2 r = FR r) (e4 : chd F2 L2 R2 SH 51 H) : cvI F2 L2 R2 SH (s.1, H, s.2.2) := by
  obtain ⟨h1, h2, h3, h4, h5, h6, h7, h8, h9, h10⟩ := hv
  have e0 : ∀ r, rw0 SH r → F2 r = FI r := fun r h1 => e1 r (by have := hr r h1; omega)
  exact ⟨by rw [e1 _ (by first | decide | simp)]; exact h1, h2, by rw [e2 _ (by first | decide | simp)]; exact h3, e4, by rw [e1 _ (by first | decide | simp)]; exact h5, h6, by rw [e1 _ (by first | decide | simp)]; exact h7, h8, h9, lv_mono (fun i p hi _ hp => cq_fr hp e0 (e1 _ (by omega)) (e2 _ (by omega)) (e3 _ (by omega))) h10⟩
theorem c_becomeI {k : Int32} {y : Int64} {u : Unit} {H : ms_H} (hS : h_S n SH) (hv : cvI FI FL FR SH s) (hk : k.toInt = H.1) (hy : y = H.2.1) (hok : ms_ok H) (h4 : H.1 ≠ 4) (h : RX5_become 51 k y n sl SH FI FL FR u st) : ∃ F2 L2, st = (n, sl, SH, F2, L2, FR) ∧ kzI FI FL FR F2 L2 FR ∧ cvI F2 L2 FR SH (s.1, H, s.2.2) ∧ (∀ r, r ≠ 51 → F2 r = FI r) ∧ (∀ r, r ≠ 51 → L2 r = FL r) ∧ F2 51 2 = 0 ∧ F2 51 3 = 0 := by
  have hr := rg_of hS
  have e := h.2
  refine ⟨_, _, e, kzI_i (kzI_i (kzI_i (kzI_l kzI_rf (by first | decide | simp)) (by first | decide | simp)) (by first | decide | simp)) (by first | decide | simp), cvI_hd hv hr (fun r h1 => by rw [h_up_nc h1, h_up_nc h1, h_up_nc h1]) (fun r h1 => h_up_nc h1) (fun _ _ => rfl) ⟨⟨?_, ?_, hok, fun e => absurd e h4⟩, by rw [h_up_ne (by first | decide | simp), h_up_eq], h_up_eq⟩, fun r h1 => by rw [h_up_nc h1, h_up_nc h1, h_up_nc h1], fun r h1 => h_up_nc h1, by rw [h_up_ne (by first | decide | simp), h_up_eq], h_up_eq⟩
  · rw [h_up_ne (by first | decide | simp), h_up_ne (by first | decide | simp), h_up_eq]; exact hk
  · rw [h_up_eq]; exact hy
end CKI
section CK
variable {n sl : Nat} {SH : Nat → Nat × Nat} {FI F1 : Nat → Nat → Int32} {FL L1 : Nat → Nat → Int64} {FR R1 : Nat → Nat → Option Nat} {c v : Int32} {st : hS} {s : ms_S} {x : ms_O} {E : ms_E}
theorem c_want {a : Int64} (ha : FL 48 12 = a) (h21 : c.toInt = 21 → 0 ≤ a.toInt ∧ a.toInt ≤ 255) : (fX9_wanted c SH FI FL FR).toInt = ms_wt c.toInt a := by
  unfold fX9_wanted ms_wt
  simp only [Int32.reduceToInt]
  by_cases h1 : c.toInt = 6 ∨ c.toInt = 18 ∨ c.toInt = 19 ∨ c.toInt = 25 ∨ c.toInt = 31 ∨ c.toInt = 32 ∨ c.toInt = 35 ∨ c.toInt = 40 ∨ c.toInt = 148 ∨ c.toInt = 155 ∨ c.toInt = 159
  · rw [if_pos h1, if_pos h1]; decide
  rw [if_neg h1, if_neg h1]
  by_cases h2 : c.toInt = 20 ∨ c.toInt = 22
  · rw [if_pos h2, if_pos h2]; decide
  rw [if_neg h2, if_neg h2]
  by_cases h3 : c.toInt = 21
  · rw [if_pos h3, if_pos h3, ha, i_add (l_2i rfl (by have := h21 h3; omega) (by have := h21 h3; omega)) (by first | decide | simp : ((1 : Int32)).toInt = 1) (by have := h21 h3; omega) (by have := h21 h3; omega)]
  rw [if_neg h3, if_neg h3]
  by_cases h4 : c.toInt = 23
  · rw [if_pos h4, if_pos h4]; decide
  rw [if_neg h4, if_neg h4]
  by_cases h5 : c.toInt < 26
  · rw [if_pos h5, if_neg (by omega)]; decide
  rw [if_neg h5]
  by_cases h6 : 46 < c.toInt
  · rw [if_pos h6, if_neg (by omega)]; decide
  rw [if_neg h6, if_pos (by omega)]; decide
theorem c_much (hv : cv FI FL FR SH s) (hc : c.toInt = 147 ∨ c.toInt = 157) (h12 : FL 48 12 = x.1) (h13 : c.toInt = 157 → FL 48 13 = x.2.1) : (fX9_isTooMuch c SH FI FL FR).toInt = 0 ↔ ms_pc c.toInt x.1 x.2.1 s ≠ none := by
  obtain ⟨v1, v2, v3, v4, v5, v6, v7, v8, v9, v10⟩ := hv
  rw [ne_eq, pc_n]
  unfold fX9_isTooMuch
  have z1 : (((4096 : Int32)) / ((8 : Int32))).toInt64.toInt = 512 := by first | decide | simp
  have z2 : (((4096 : Int32)) / ((1 : Int32))).toInt64.toInt = 4096 := by first | decide | simp
  rw [z1, z2, h12, v5]
  simp only [Int32.reduceToInt, Int64.reduceToInt]
  rcases hc with hc | hc
  · rw [if_pos hc, if_neg (show ¬ c.toInt = 157 by omega), if_neg (show ¬ c.toInt = 157 by omega), if_neg (show ¬ c.toInt = 157 by omega)]
    by_cases g1 : (s.2.2.length : Int) < 16
    · rw [if_pos g1]
      by_cases g2 : x.1.toInt < 0
      · rw [if_pos g2]; exact ⟨fun e => absurd e (by first | decide | simp), fun e => by omega⟩
      rw [if_neg g2]
      by_cases g3 : 512 < x.1.toInt
      · rw [if_pos g3]; exact ⟨fun e => absurd e (by first | decide | simp), fun e => by omega⟩
      rw [if_neg g3]
      have e8 : (((FI 72 2).toInt64) + (x.1 * (((8 : Int32)).toInt64))).toInt = ms_tb s.2.2 + 8 * x.1.toInt := by
        rw [l_add (i_2l v7) (l_mul rfl (by first | decide | simp : (((8 : Int32)).toInt64).toInt = 8) (by omega) (by omega)) (by omega) (by omega)]
        omega
      rw [e8]
      by_cases g4 : 4096 < ms_tb s.2.2 + 8 * x.1.toInt
      · rw [if_pos g4]; exact ⟨fun e => absurd e (by first | decide | simp), fun e => by omega⟩
      · rw [if_neg g4]; exact ⟨fun _ => by omega, fun _ => by first | decide | simp⟩
    · rw [if_neg g1]; exact ⟨fun e => absurd e (by first | decide | simp), fun e => by omega⟩
  · rw [if_neg (show ¬ c.toInt = 147 by omega), if_pos hc, if_pos hc, if_pos hc, h13 hc]
    by_cases g1 : (s.2.2.length : Int) < 16
    · rw [if_pos g1]
      by_cases g2 : x.1.toInt < 0
      · rw [if_pos g2]; exact ⟨fun e => absurd e (by first | decide | simp), fun e => by omega⟩
      rw [if_neg g2]
      by_cases g3 : 4096 < x.1.toInt
      · rw [if_pos g3]; exact ⟨fun e => absurd e (by first | decide | simp), fun e => by omega⟩
      rw [if_neg g3]
      by_cases g5 : x.2.1.toInt < 0
      · rw [if_pos g5]; exact ⟨fun e => absurd e (by first | decide | simp), fun e => by omega⟩
      rw [if_neg g5]
      by_cases g6 : 4096 < x.2.1.toInt
      · rw [if_pos g6]; exact ⟨fun e => absurd e (by first | decide | simp), fun e => by omega⟩
      rw [if_neg g6]
      have e8 : (((FI 72 2).toInt64) + (x.1 * (((1 : Int32)).toInt64))).toInt = ms_tb s.2.2 + x.1.toInt := by
        rw [l_add (i_2l v7) (l_mul rfl (by first | decide | simp : (((1 : Int32)).toInt64).toInt = 1) (by omega) (by omega)) (by omega) (by omega)]
        omega
      rw [e8]
      by_cases g4 : 4096 < ms_tb s.2.2 + x.1.toInt
      · rw [if_pos g4]; exact ⟨fun e => absurd e (by first | decide | simp), fun e => by omega⟩
      · rw [if_neg g4]; exact ⟨fun _ => by omega, fun _ => by first | decide | simp⟩
    · rw [if_neg g1]; exact ⟨fun e => absurd e (by first | decide | simp), fun e => by omega⟩
theorem c_check (hv : cv FI FL FR SH s) (h12 : FL 48 12 = x.1) (h13 : c.toInt = 157 → FL 48 13 = x.2.1) (h21 : c.toInt = 21 → 0 ≤ x.1.toInt ∧ x.1.toInt ≤ 255) (h : RX9_check c n sl SH FI FL FR v st) : v.toInt = ms_ck c.toInt x s ∧ st = (n, sl, SH, FI, FL, FR) := by
  have k0 := hv.2.2.2.1.1.1
  have ksz := hv.1
  unfold ms_ck
  unfold RX9_check at h
  rw [c_gw, k0] at h
  have go : ∀ _ : ¬ (s.2.1.1 ≠ 0 ∧ ¬ (c.toInt = 147 ∨ c.toInt = 157 ∨ c.toInt = 150 ∨ c.toInt = 47 ∨ c.toInt = 152 ∨ c.toInt = 153)), RX9_check_20 c n sl SH FI FL FR v st → v.toInt = (if (c.toInt = 144 ∨ c.toInt = 146) ∧ (x.1.toInt < 0 ∨ 31 < x.1.toInt) then 14 else if c.toInt = 148 ∧ (x.1.toInt < 1 ∨ 8 < x.1.toInt) then 10 else if (c.toInt = 147 ∨ c.toInt = 157) ∧ ms_pc c.toInt x.1 x.2.1 s = none then 13 else if (s.1.length : Int) < ms_wt c.toInt x.1 then 3 else 0) ∧ st = (n, sl, SH, FI, FL, FR) := by
    intro _ h
    have g112 : ∀ _ : ¬ ((c.toInt = 147 ∨ c.toInt = 157) ∧ ms_pc c.toInt x.1 x.2.1 s = none), RX9_check_112 c n sl SH FI FL FR v st → v.toInt = (if (c.toInt = 147 ∨ c.toInt = 157) ∧ ms_pc c.toInt x.1 x.2.1 s = none then 13 else if (s.1.length : Int) < ms_wt c.toInt x.1 then 3 else 0) ∧ st = (n, sl, SH, FI, FL, FR) := by
      intro q h
      unfold RX9_check_112 at h
      rw [c_want h12 h21, ksz] at h
      rw [if_neg q]
      rcases h with ⟨h0, e1, e⟩ | ⟨h0, e1, e⟩
      · rw [if_pos h0]; exact ⟨by rw [e1]; decide, e⟩
      · rw [if_neg h0]; exact ⟨by rw [e1]; decide, e⟩
    have g87 : RX9_check_87 c n sl SH FI FL FR v st → v.toInt = (if (c.toInt = 147 ∨ c.toInt = 157) ∧ ms_pc c.toInt x.1 x.2.1 s = none then 13 else if (s.1.length : Int) < ms_wt c.toInt x.1 then 3 else 0) ∧ st = (n, sl, SH, FI, FL, FR) := by
      intro h
      have g101 : ∀ _ : c.toInt = 147 ∨ c.toInt = 157, RX9_check_101 c n sl SH FI FL FR v st → v.toInt = (if (c.toInt = 147 ∨ c.toInt = 157) ∧ ms_pc c.toInt x.1 x.2.1 s = none then 13 else if (s.1.length : Int) < ms_wt c.toInt x.1 then 3 else 0) ∧ st = (n, sl, SH, FI, FL, FR) := by
        intro hc h
        unfold RX9_check_101 at h
        rw [c_much hv hc h12 h13] at h
        rcases h with ⟨h0, h⟩ | ⟨h0, e1, e⟩
        · exact g112 (fun e => h0 e.2) h
        · rw [if_pos ⟨hc, Classical.byContradiction h0⟩]
          exact ⟨by rw [e1]; decide, e⟩
      rcases h with ⟨g1, h⟩ | ⟨g1, h⟩
      · rw [show ((147 : Int32)).toInt = 147 by first | decide | simp] at g1
        exact g101 (Or.inl g1) h
      · rw [show ((147 : Int32)).toInt = 147 by first | decide | simp] at g1
        rcases h with ⟨g2, h⟩ | ⟨g2, h⟩
        · rw [show ((157 : Int32)).toInt = 157 by first | decide | simp] at g2
          exact g101 (Or.inr g2) h
        · rw [show ((157 : Int32)).toInt = 157 by first | decide | simp] at g2
          exact g112 (fun e => e.1.elim g1 g2) h
    have g57 : RX9_check_57 c n sl SH FI FL FR v st → v.toInt = (if c.toInt = 148 ∧ (x.1.toInt < 1 ∨ 8 < x.1.toInt) then 10 else if (c.toInt = 147 ∨ c.toInt = 157) ∧ ms_pc c.toInt x.1 x.2.1 s = none then 13 else if (s.1.length : Int) < ms_wt c.toInt x.1 then 3 else 0) ∧ st = (n, sl, SH, FI, FL, FR) := by
      intro h
      unfold RX9_check_57 at h
      rw [h12, show ((148 : Int32)).toInt = 148 by first | decide | simp, show ((1 : Int64)).toInt = 1 by first | decide | simp, show ((8 : Int64)).toInt = 8 by first | decide | simp] at h
      rcases h with ⟨g1, h⟩ | ⟨g1, h⟩
      · rcases h with ⟨g2, e1, e⟩ | ⟨g2, h⟩
        · rw [if_pos ⟨g1, Or.inl g2⟩]; exact ⟨by rw [e1]; decide, e⟩
        · rcases h with ⟨g3, e1, e⟩ | ⟨g3, h⟩
          · rw [if_pos ⟨g1, Or.inr g3⟩]; exact ⟨by rw [e1]; decide, e⟩
          · rw [if_neg (fun e => e.2.elim g2 g3)]; exact g87 h
      · rw [if_neg (fun e => g1 e.1)]; exact g87 h
    have g34 : ∀ _ : c.toInt = 144 ∨ c.toInt = 146, RX9_check_34 c n sl SH FI FL FR v st → v.toInt = (if (c.toInt = 144 ∨ c.toInt = 146) ∧ (x.1.toInt < 0 ∨ 31 < x.1.toInt) then 14 else if c.toInt = 148 ∧ (x.1.toInt < 1 ∨ 8 < x.1.toInt) then 10 else if (c.toInt = 147 ∨ c.toInt = 157) ∧ ms_pc c.toInt x.1 x.2.1 s = none then 13 else if (s.1.length : Int) < ms_wt c.toInt x.1 then 3 else 0) ∧ st = (n, sl, SH, FI, FL, FR) := by
      intro hc h
      unfold RX9_check_34 at h
      rw [h12, show ((0 : Int64)).toInt = 0 by first | decide | simp, show ((32 : Int64)).toInt = 32 by first | decide | simp] at h
      rcases h with ⟨g2, e1, e⟩ | ⟨g2, h⟩
      · rw [if_pos ⟨hc, Or.inl g2⟩]; exact ⟨by rw [e1]; decide, e⟩
      · rcases h with ⟨g3, h⟩ | ⟨g3, e1, e⟩
        · rw [if_neg (fun e => e.2.elim g2 (fun w => by omega))]; exact g57 h
        · rw [if_pos ⟨hc, Or.inr (by omega)⟩]; exact ⟨by rw [e1]; decide, e⟩
    rcases h with ⟨g1, h⟩ | ⟨g1, h⟩
    · rw [show ((144 : Int32)).toInt = 144 by first | decide | simp] at g1
      exact g34 (Or.inl g1) h
    · rw [show ((144 : Int32)).toInt = 144 by first | decide | simp] at g1
      rcases h with ⟨g2, h⟩ | ⟨g2, h⟩
      · rw [show ((146 : Int32)).toInt = 146 by first | decide | simp] at g2
        exact g34 (Or.inr g2) h
      · rw [show ((146 : Int32)).toInt = 146 by first | decide | simp] at g2
        rw [if_neg (fun e => e.1.elim g1 g2)]
        exact g57 h
  rcases h with ⟨h0, h⟩ | ⟨h0, h⟩
  · rw [if_neg (fun e => e.1 h0)]
    exact go (fun e => e.1 h0) h
  · rcases h with ⟨h1, e1, e⟩ | ⟨h1, h⟩
    · rw [if_pos ⟨h0, h1⟩]; exact ⟨by rw [e1]; decide, e⟩
    · rw [if_neg (fun e => h1 e.2)]
      exact go (fun e => h1 e.2) h
/-- operations one behind another -/
theorem cr_tr {q : Int ⊕ ms_S} (k : kz FI FL FR F1 L1 R1) (e6 : F1 48 6 = FI 48 6) (e7 : F1 48 7 = FI 48 7) (e10 : F1 48 10 = FI 48 10) (e12 : L1 48 12 = FL 48 12) (e13 : L1 48 13 = FL 48 13) (h : cr n sl SH F1 L1 R1 v st q) : cr n sl SH FI FL FR v st q := by
  match q, h with
  | .inl e, ⟨h1, h2, F2, L2, R2, h3, h4⟩ => exact ⟨h1, h2, F2, L2, R2, h3, kz_tr k h4⟩
  | .inr s2, ⟨h1, F2, L2, R2, h3, h4, h5, h6, h7, h8, h9, h10⟩ => exact ⟨h1, F2, L2, R2, h3, kz_tr k h4, h5, h6.trans e6, h7.trans e7, h8.trans e10, h9.trans e12, h10.trans e13⟩
theorem cr_e {e : Int} (hv : v.toInt = e) (he : e ≠ 0) {F2 : Nat → Nat → Int32} {L2 : Nat → Nat → Int64} {R2 : Nat → Nat → Option Nat} (h : st = (n, sl, SH, F2, L2, R2)) (k : kz FI FL FR F2 L2 R2) : cr n sl SH FI FL FR v st (.inl e) := ⟨hv, he, F2, L2, R2, h, k⟩
theorem cv_hd {H : ms_H} {F2 : Nat → Nat → Int32} {L2 : Nat → Nat → Int64} {R2 : Nat → Nat → Option Nat} (hv : cv FI FL FR SH s) (hr : rg SH) (e1 : ∀ r, r ≠ 71 → F2 r = FI r) (e2 : ∀ r, r ≠ 71 → L2 r = FL r) (e3 : ∀ r, r ≠ 71 → R2 r = FR r) (e4 : chd F2 L2 R2 SH 71 H) : cv F2 L2 R2 SH (s.1, H, s.2.2) := by
  obtain ⟨h1, h2, h3, h4, h5, h6, h7, h8, h9, h10⟩ := hv
  have e0 : ∀ r, rw0 SH r → F2 r = FI r := fun r h1 => e1 r (by have := hr r h1; omega)
  exact ⟨by rw [e1 _ (by first | decide | simp)]; exact h1, h2, by rw [e2 _ (by first | decide | simp)]; exact h3, e4, by rw [e1 _ (by first | decide | simp)]; exact h5, h6, by rw [e1 _ (by first | decide | simp)]; exact h7, h8, h9, lv_mono (fun i p hi _ hp => cq_fr hp e0 (e1 _ (by omega)) (e2 _ (by omega)) (e3 _ (by omega))) h10⟩
theorem c_become {k : Int32} {y : Int64} {u : Unit} {H : ms_H} (hS : h_S n SH) (hv : cv FI FL FR SH s) (hk : k.toInt = H.1) (hy : y = H.2.1) (hok : ms_ok H) (h4 : H.1 ≠ 4) (h : RX5_become 71 k y n sl SH FI FL FR u st) : ∃ F2 L2, st = (n, sl, SH, F2, L2, FR) ∧ kz FI FL FR F2 L2 FR ∧ cv F2 L2 FR SH (s.1, H, s.2.2) ∧ (∀ r, r ≠ 71 → F2 r = FI r) ∧ (∀ r, r ≠ 71 → L2 r = FL r) ∧ F2 71 2 = 0 ∧ F2 71 3 = 0 := by
  have hr := rg_of hS
  have e := h.2
  refine ⟨_, _, e, kz_i (kz_i (kz_i (kz_l kz_rf (by first | decide | simp)) (by first | decide | simp)) (by first | decide | simp)) (by first | decide | simp), cv_hd hv hr (fun r h1 => by rw [h_up_nc h1, h_up_nc h1, h_up_nc h1]) (fun r h1 => h_up_nc h1) (fun _ _ => rfl) ⟨⟨?_, ?_, hok, fun e => absurd e h4⟩, by rw [h_up_ne (by first | decide | simp), h_up_eq], h_up_eq⟩, fun r h1 => by rw [h_up_nc h1, h_up_nc h1, h_up_nc h1], fun r h1 => h_up_nc h1, by rw [h_up_ne (by first | decide | simp), h_up_eq], h_up_eq⟩
  · rw [h_up_ne (by first | decide | simp), h_up_ne (by first | decide | simp), h_up_eq]; exact hk
  · rw [h_up_eq]; exact hy
end CK
