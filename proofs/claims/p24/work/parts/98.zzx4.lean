/-! THE CLASS'S OPERATIONS. -/
def ms_cv (s : ms_S) (r : Int ⊕ (List Int64 × ms_H)) : Int ⊕ ms_S := match r with
  | .inl e => .inl e
  | .inr y => .inr (y.1, y.2, s.2.2)
theorem cv_ps {v : Int64} {s : ms_S} : ms_cv s (ms_ps v s.1 s.2.1) = (if s.1.length = 128 then .inl 4 else .inr (v :: s.1, s.2)) := by
  unfold ms_ps
  by_cases h : s.1.length = 128
  · rw [if_pos h, if_pos h]; rfl
  · rw [if_neg h, if_neg h]; rfl
section CW
variable {n sl : Nat} {SH : Nat → Nat × Nat} {FI : Nat → Nat → Int32} {FL : Nat → Nat → Int64} {FR : Nat → Nat → Option Nat} {E : ms_E} {y t : Int64}
theorem wj_0 {c k : Int32} {z : Int} (h : c.toInt = z) (hk : k.toInt = z) : c = k := i_eqv (by rw [h, hk])
theorem wj_26 : fX9_joined (26 : Int32) y t SH FI FL FR = ms_wk 26 y t := by
  show fX9_joined (26 : Int32) y t SH FI FL FR = fX12_worked (26 : Int32) y t _ _ _ _
  simp [fX9_joined, fX12_worked]
theorem wj_28 : fX9_joined (28 : Int32) y t SH FI FL FR = ms_wk 28 y t := by
  show fX9_joined (28 : Int32) y t SH FI FL FR = fX12_worked (28 : Int32) y t _ _ _ _
  simp [fX9_joined, fX12_worked]
theorem wj_30 : fX9_joined (30 : Int32) y t SH FI FL FR = ms_wk 30 y t := by
  show fX9_joined (30 : Int32) y t SH FI FL FR = fX12_worked (30 : Int32) y t _ _ _ _
  simp [fX9_joined, fX12_worked]
theorem wj_33 : fX9_joined (33 : Int32) y t SH FI FL FR = ms_wk 33 y t := by
  show fX9_joined (33 : Int32) y t SH FI FL FR = fX12_worked (33 : Int32) y t _ _ _ _
  simp [fX9_joined, fX12_worked]
theorem wj_34 : fX9_joined (34 : Int32) y t SH FI FL FR = ms_wk 34 y t := by
  show fX9_joined (34 : Int32) y t SH FI FL FR = fX12_worked (34 : Int32) y t _ _ _ _
  simp [fX9_joined, fX12_worked]
theorem wj_39 : fX9_joined (39 : Int32) y t SH FI FL FR = ms_wk 39 y t := by
  show fX9_joined (39 : Int32) y t SH FI FL FR = fX12_worked (39 : Int32) y t _ _ _ _
  simp [fX9_joined, fX12_worked]
theorem wj_27 (ht : t.toInt ≠ 0) : fX9_joined (27 : Int32) y t SH FI FL FR = ms_wk 27 y t := by
  show fX9_joined (27 : Int32) y t SH FI FL FR = fX12_worked (27 : Int32) y t _ _ _ _
  simp [fX9_joined, fX12_worked, ht]
theorem wj_29 (ht : t.toInt ≠ 0) : fX9_joined (29 : Int32) y t SH FI FL FR = ms_wk 29 y t := by
  show fX9_joined (29 : Int32) y t SH FI FL FR = fX12_worked (29 : Int32) y t (fun _ => (0, 0)) (fun _ _ => 0) (fun _ _ => 0) (fun _ _ => none)
  have eb : ∀ a b : Int64, fX11_isBelow a b SH FI FL FR = fX12_isBelow a b (fun _ => (0, 0)) (fun _ _ => 0) (fun _ _ => 0) (fun _ _ => none) := fun _ _ => rfl
  have e1 : fX9_joined (29 : Int32) y t SH FI FL FR = fX9_restWithoutSign y t SH FI FL FR := by simp [fX9_joined]
  have e2 : fX12_worked (29 : Int32) y t (fun _ => (0, 0)) (fun _ _ => 0) (fun _ _ => 0) (fun _ _ => none) = fX12_rest y t (fun _ => (0, 0)) (fun _ _ => 0) (fun _ _ => 0) (fun _ _ => none) := by simp [fX12_worked]
  rw [e1, e2]
  unfold fX9_restWithoutSign fX12_rest
  rw [if_neg (show ¬ t.toInt = ((0 : Int64)).toInt from ht)]
  simp only [eb]
theorem wj_36 : fX9_joined (36 : Int32) y t SH FI FL FR = ms_wk 36 y t := by
  show fX9_joined (36 : Int32) y t SH FI FL FR = fX12_worked (36 : Int32) y t _ _ _ _
  by_cases h0 : t.toInt < 0 <;> by_cases h1 : 63 < t.toInt <;> simp [fX9_joined, fX9_shifted, fX9_compared, fX12_worked, h0, h1]
theorem wj_37 : fX9_joined (37 : Int32) y t SH FI FL FR = ms_wk 37 y t := by
  show fX9_joined (37 : Int32) y t SH FI FL FR = fX12_worked (37 : Int32) y t _ _ _ _
  by_cases h0 : t.toInt < 0 <;> by_cases h1 : 63 < t.toInt <;> simp [fX9_joined, fX9_shifted, fX9_compared, fX12_worked, h0, h1]
theorem wj_38 : fX9_joined (38 : Int32) y t SH FI FL FR = ms_wk 38 y t := by
  show fX9_joined (38 : Int32) y t SH FI FL FR = fX12_worked (38 : Int32) y t _ _ _ _
  by_cases h0 : t.toInt < 0 <;> by_cases h1 : 63 < t.toInt <;> by_cases h2 : y.toInt < 0 <;> simp [fX9_joined, fX9_shifted, fX9_compared, fX12_worked, h0, h1, h2]
theorem wj_41 : fX9_joined (41 : Int32) y t SH FI FL FR = ms_wk 41 y t := by
  show fX9_joined (41 : Int32) y t SH FI FL FR = fX12_worked (41 : Int32) y t _ _ _ _
  by_cases h0 : t.toInt < 0 <;> by_cases h1 : 63 < t.toInt <;> by_cases h2 : y.toInt = t.toInt <;> simp [fX9_joined, fX9_shifted, fX9_compared, fX12_worked, h0, h1, h2]
theorem wj_42 : fX9_joined (42 : Int32) y t SH FI FL FR = ms_wk 42 y t := by
  show fX9_joined (42 : Int32) y t SH FI FL FR = fX12_worked (42 : Int32) y t _ _ _ _
  by_cases h0 : t.toInt < 0 <;> by_cases h1 : 63 < t.toInt <;> by_cases h2 : y.toInt < t.toInt <;> simp [fX9_joined, fX9_shifted, fX9_compared, fX12_worked, h0, h1, h2]
theorem wj_43 : fX9_joined (43 : Int32) y t SH FI FL FR = ms_wk 43 y t := by
  show fX9_joined (43 : Int32) y t SH FI FL FR = fX12_worked (43 : Int32) y t _ _ _ _
  by_cases h0 : t.toInt < 0 <;> by_cases h1 : 63 < t.toInt <;> by_cases h2 : t.toInt < y.toInt <;> simp [fX9_joined, fX9_shifted, fX9_compared, fX12_worked, h0, h1, h2]
theorem wj_44 : fX9_joined (44 : Int32) y t SH FI FL FR = ms_wk 44 y t := by
  show fX9_joined (44 : Int32) y t SH FI FL FR = fX12_worked (44 : Int32) y t _ _ _ _
  by_cases h0 : t.toInt < 0 <;> by_cases h1 : 63 < t.toInt <;> by_cases h2 : t.toInt < y.toInt <;> simp [fX9_joined, fX9_shifted, fX9_compared, fX12_worked, h0, h1, h2]
theorem wj_45 : fX9_joined (45 : Int32) y t SH FI FL FR = ms_wk 45 y t := by
  show fX9_joined (45 : Int32) y t SH FI FL FR = fX12_worked (45 : Int32) y t _ _ _ _
  by_cases h0 : t.toInt < 0 <;> by_cases h1 : 63 < t.toInt <;> by_cases h2 : y.toInt < t.toInt <;> simp [fX9_joined, fX9_shifted, fX9_compared, fX12_worked, h0, h1, h2]
theorem wj_46 : fX9_joined (46 : Int32) y t SH FI FL FR = ms_wk 46 y t := by
  show fX9_joined (46 : Int32) y t SH FI FL FR = fX12_worked (46 : Int32) y t _ _ _ _
  by_cases h0 : t.toInt < 0 <;> by_cases h1 : 63 < t.toInt <;> by_cases h2 : y.toInt = t.toInt <;> simp [fX9_joined, fX9_shifted, fX9_compared, fX12_worked, h0, h1, h2]
theorem wj {c : Int32} (h : 26 ≤ c.toInt ∧ c.toInt ≤ 46 ∧ c.toInt ≠ 31 ∧ c.toInt ≠ 32 ∧ c.toInt ≠ 35 ∧ c.toInt ≠ 40) (hz : ¬ ((c.toInt = 27 ∨ c.toInt = 29) ∧ t.toInt = 0)) : fX9_joined c y t SH FI FL FR = ms_wk c.toInt y t := by
  by_cases h26 : c.toInt = 26
  · rw [h26, wj_0 h26 (by first | decide | simp : ((26 : Int32)).toInt = 26)]; exact wj_26
  by_cases h27 : c.toInt = 27
  · rw [h27, wj_0 h27 (by first | decide | simp : ((27 : Int32)).toInt = 27)]; exact wj_27 (fun e => hz ⟨by omega, e⟩)
  by_cases h28 : c.toInt = 28
  · rw [h28, wj_0 h28 (by first | decide | simp : ((28 : Int32)).toInt = 28)]; exact wj_28
  by_cases h29 : c.toInt = 29
  · rw [h29, wj_0 h29 (by first | decide | simp : ((29 : Int32)).toInt = 29)]; exact wj_29 (fun e => hz ⟨by omega, e⟩)
  by_cases h30 : c.toInt = 30
  · rw [h30, wj_0 h30 (by first | decide | simp : ((30 : Int32)).toInt = 30)]; exact wj_30
  by_cases h33 : c.toInt = 33
  · rw [h33, wj_0 h33 (by first | decide | simp : ((33 : Int32)).toInt = 33)]; exact wj_33
  by_cases h34 : c.toInt = 34
  · rw [h34, wj_0 h34 (by first | decide | simp : ((34 : Int32)).toInt = 34)]; exact wj_34
  by_cases h36 : c.toInt = 36
  · rw [h36, wj_0 h36 (by first | decide | simp : ((36 : Int32)).toInt = 36)]; exact wj_36
  by_cases h37 : c.toInt = 37
  · rw [h37, wj_0 h37 (by first | decide | simp : ((37 : Int32)).toInt = 37)]; exact wj_37
  by_cases h38 : c.toInt = 38
  · rw [h38, wj_0 h38 (by first | decide | simp : ((38 : Int32)).toInt = 38)]; exact wj_38
  by_cases h39 : c.toInt = 39
  · rw [h39, wj_0 h39 (by first | decide | simp : ((39 : Int32)).toInt = 39)]; exact wj_39
  by_cases h41 : c.toInt = 41
  · rw [h41, wj_0 h41 (by first | decide | simp : ((41 : Int32)).toInt = 41)]; exact wj_41
  by_cases h42 : c.toInt = 42
  · rw [h42, wj_0 h42 (by first | decide | simp : ((42 : Int32)).toInt = 42)]; exact wj_42
  by_cases h43 : c.toInt = 43
  · rw [h43, wj_0 h43 (by first | decide | simp : ((43 : Int32)).toInt = 43)]; exact wj_43
  by_cases h44 : c.toInt = 44
  · rw [h44, wj_0 h44 (by first | decide | simp : ((44 : Int32)).toInt = 44)]; exact wj_44
  by_cases h45 : c.toInt = 45
  · rw [h45, wj_0 h45 (by first | decide | simp : ((45 : Int32)).toInt = 45)]; exact wj_45
  by_cases h46 : c.toInt = 46
  · rw [h46, wj_0 h46 (by first | decide | simp : ((46 : Int32)).toInt = 46)]; exact wj_46
  exfalso; omega
theorem c_reg {x : Int64} (hS : h_S n SH) (hE : cE FI FL FR SH E) (h0 : 0 ≤ x.toInt) (h1 : x.toInt ≤ 31) : fX1_registerValue x SH FI FL FR = ms_rg E x.toInt.toNat := by
  unfold fX1_registerValue
  rw [show ((Int32.ofNat (SH 24).2).toInt64).toInt = 32 by rw [hS.2 24 (by first | decide | simp)]; decide +kernel, show ((0 : Int64)).toInt = 0 by first | decide | simp, if_neg (by omega), if_pos (by omega), l_2i (A := x.toInt) rfl (by omega) (by omega)]
  exact hE.1 _ (by omega)
theorem c_has {x : Int64} {k : Int32} {m : Nat} (hS : h_S n SH) (hk : k.toInt = m) (hm : m ≤ 8) : (fX1_hasBytes x k SH FI FL FR).toInt = 0 ↔ (x.toInt < 0 ∨ 4096 - (m : Int) < x.toInt) := by
  unfold fX1_hasBytes
  have e : ((Int32.ofNat (SH 25).2 - k).toInt64).toInt = 4096 - (m : Int) := i_2l (i_sub (by rw [hS.2 25 (by first | decide | simp)]; decide +kernel) hk (by omega) (by omega))
  rw [e, show ((0 : Int64)).toInt = 0 by first | decide | simp]
  by_cases h1 : x.toInt < 0
  · rw [if_pos h1]; exact ⟨fun _ => Or.inl h1, fun _ => by first | decide | simp⟩
  · rw [if_neg h1]
    by_cases h2 : 4096 - (m : Int) < x.toInt
    · rw [if_pos h2]; exact ⟨fun _ => Or.inr h2, fun _ => by first | decide | simp⟩
    · rw [if_neg h2]; exact ⟨fun e => absurd e (by first | decide | simp), fun e => absurd e (fun w => w.elim h1 h2)⟩
theorem c_bytes {x v : Int64} {k : Int32} {m : Nat} {st : hS} (hS : h_S n SH) (hE : cE FI FL FR SH E) (hk : k.toInt = m) (hm : m ≤ 8) (h0 : 0 ≤ x.toInt) (h1 : x.toInt ≤ 4096 - (m : Int)) (h : RX1_bytes x k n sl SH FI FL FR v st) : v = ms_rd E x.toInt.toNat m ∧ st = (n, sl, SH, FI, FL, FR) := by
  have h := P_n h (fun e => by have := (c_has hS hk hm).mp e; omega)
  obtain ⟨v2, n2, sl2, SH2, FI2, FL2, FR2, hh, e1, e⟩ := h
  have hb : bk0 FI SH 25 x.toInt.toNat ((List.range m).map (fun i => ms_mm E (x.toInt.toNat + i))) := by
    refine ⟨by rw [hS.2 25 (by first | decide | simp)]; decide +kernel, ?_, by rw [hS.2 25 (by first | decide | simp)]; decide +kernel, fun i b hi => ?_⟩
    · rw [show (SH 25).2 = 4096 by rw [hS.2 25 (by first | decide | simp)]; decide +kernel, List.length_map, List.length_range]
      omega
    · have hil : i < m := by
        have := (List.getElem?_eq_some_iff.mp hi).1
        rw [List.length_map, List.length_range] at this
        exact this
      rw [List.getElem?_map, List.getElem?_range hil] at hi
      have hi : ms_mm E (x.toInt.toNat + i) = b := Option.some.inj hi
      have := hE.2.1 (x.toInt.toNat + i) (by omega)
      rw [← hi]
      exact this
  obtain ⟨q1, q2⟩ := cn_num (p := 0) (k := m) hb (by rw [l_2i (A := x.toInt) rfl (by omega) (by omega)]; omega) hk hm (by rw [List.length_map, List.length_range]; omega) hh
  cases q2
  refine ⟨?_, e⟩
  rw [e1, q1]
  unfold ms_rd
  rw [List.drop_zero, List.take_of_length_le (by rw [List.length_map, List.length_range]; exact Nat.le_refl _)]
end CW
section COI
variable {n sl : Nat} {SH : Nat → Nat × Nat} {FI F1 : Nat → Nat → Int32} {FL L1 : Nat → Nat → Int64} {FR R1 : Nat → Nat → Option Nat} {c a3 v : Int32} {a2 : Option Nat} {st : hS} {s : ms_S} {x : ms_O} {E : ms_E} {y t : Int64}
theorem c_puI (hS : h_S n SH) (hv : cvI FI FL FR SH s) (h : P_bi (RX9_pushI y n sl SH FI FL FR) (fun v1 n1 sl1 SH1 FI1 FL1 FR1 => P_ret v1 (n1, sl1, SH1, FI1, FL1, FR1)) v st) : crI n sl SH FI FL FR v st (ms_cv s (ms_ps y s.1 s.2.1)) := by
  obtain ⟨v1, n1, sl1, SH1, FI1, FL1, FR1, h, e1, e⟩ := h
  rw [cv_ps, e1, e]
  exact c_pushI hS hv h
theorem c_o22I (hc : c.toInt < 48 ∨ 79 < c.toInt) (h : RX9_operateI c a2 a3 n sl SH FI FL FR v st) : RX9_operateI_22 c a2 a3 n sl SH FI FL FR v st := by
  rcases h with ⟨-, h⟩ | ⟨q, h⟩
  · exact h
  · exact P_p h (by rw [show ((48 : Int32)).toInt = 48 by first | decide | simp] at q; rw [show ((79 : Int32)).toInt = 79 by first | decide | simp]; omega)
theorem c_o49I (hc : c.toInt < 48 ∨ (111 < c.toInt)) (h : RX9_operateI c a2 a3 n sl SH FI FL FR v st) : RX9_operateI_49 c a2 a3 n sl SH FI FL FR v st := by
  rcases c_o22I (by omega) h with ⟨-, h⟩ | ⟨q, h⟩
  · exact h
  · exact P_p h (by rw [show ((80 : Int32)).toInt = 80 by first | decide | simp] at q; rw [show ((111 : Int32)).toInt = 111 by first | decide | simp]; omega)
theorem c_o84I (hc : c.toInt < 48 ∨ 143 < c.toInt) (h : RX9_operateI c a2 a3 n sl SH FI FL FR v st) : RX9_operateI_84 c a2 a3 n sl SH FI FL FR v st := by
  rcases c_o49I (by omega) h with ⟨-, h⟩ | ⟨q, h⟩
  · exact h
  · exact P_p h (by rw [show ((112 : Int32)).toInt = 112 by first | decide | simp] at q; rw [show ((143 : Int32)).toInt = 143 by first | decide | simp]; omega)
theorem c_o110I (hc : c.toInt < 48 ∨ 143 < c.toInt) (h3 : c.toInt ≠ 3) (h8 : c.toInt < 8 ∨ 17 < c.toInt) (h : RX9_operateI c a2 a3 n sl SH FI FL FR v st) : RX9_operateI_110 c a2 a3 n sl SH FI FL FR v st := by
  have h := P_n (c_o84I hc h) (by rw [show ((3 : Int32)).toInt = 3 by first | decide | simp]; exact h3)
  rcases h with ⟨-, h⟩ | ⟨q, h⟩
  · exact h
  · exact P_p h (by rw [show ((8 : Int32)).toInt = 8 by first | decide | simp] at q; rw [show ((17 : Int32)).toInt = 17 by first | decide | simp]; omega)
theorem c_o128I (hc : c.toInt < 48 ∨ 143 < c.toInt) (h3 : c.toInt ≠ 3) (h8 : c.toInt < 8 ∨ 23 < c.toInt) (h : RX9_operateI c a2 a3 n sl SH FI FL FR v st) : RX9_operateI_128 c a2 a3 n sl SH FI FL FR v st := by
  rcases c_o110I hc h3 (by omega) h with ⟨-, h⟩ | ⟨q, h⟩
  · exact h
  · exact P_p h (by rw [show ((18 : Int32)).toInt = 18 by first | decide | simp] at q; rw [show ((23 : Int32)).toInt = 23 by first | decide | simp]; omega)
theorem c_o227I (hc : c.toInt = 6 ∨ 143 < c.toInt) (h : RX9_operateI c a2 a3 n sl SH FI FL FR v st) : RX9_operateI_227 c a2 a3 n sl SH FI FL FR v st := by
  have h := c_o128I (by omega) (by omega) (by omega) h
  have h := P_n (P_n (P_n (P_n h (by rw [show ((25 : Int32)).toInt = 25 by first | decide | simp]; omega)) (by rw [show ((31 : Int32)).toInt = 31 by first | decide | simp]; omega)) (by rw [show ((32 : Int32)).toInt = 32 by first | decide | simp]; omega)) (by rw [show ((35 : Int32)).toInt = 35 by first | decide | simp]; omega)
  rcases h with ⟨-, h⟩ | ⟨q, h⟩
  · exact h
  · exact P_p h (by rw [show ((26 : Int32)).toInt = 26 by first | decide | simp] at q; rw [show ((46 : Int32)).toInt = 46 by first | decide | simp]; omega)
theorem c_oaskI (hc : c.toInt = 6 ∨ 143 < c.toInt) (hn : ¬ (c.toInt = 147 ∨ c.toInt = 157 ∨ c.toInt = 158 ∨ c.toInt = 159)) (h : RX9_operateI c a2 a3 n sl SH FI FL FR v st) : RX9_askI c a3 n sl SH FI FL FR v st := by
  have h := P_n (P_n (P_n (P_n (c_o227I hc h) (by rw [show ((147 : Int32)).toInt = 147 by first | decide | simp]; omega)) (by rw [show ((157 : Int32)).toInt = 157 by first | decide | simp]; omega)) (by rw [show ((158 : Int32)).toInt = 158 by first | decide | simp]; omega)) (by rw [show ((159 : Int32)).toInt = 159 by first | decide | simp]; omega)
  obtain ⟨v1, n1, sl1, SH1, FI1, FL1, FR1, h, e1, e⟩ := h
  rw [e1, e]
  exact h
/-- one is taken away, one comes -/
theorem c_ppI {R : List Int64} {Z : Int64 → Nat → Nat → (Nat → Nat × Nat) → (Nat → Nat → Int32) → (Nat → Nat → Int64) → (Nat → Nat → Option Nat) → Int32 → hS → Prop} (hS : h_S n SH) (hs : s.1 = t :: R) (hv : cvI FI FL FR SH s) (h : P_bi (RX9_popI n sl SH FI FL FR) Z v st) : ∃ F2, kzI FI FL FR F2 FL FR ∧ cvI F2 FL FR SH (R, s.2) ∧ (∀ k, k ≠ 5 → F2 49 k = FI 49 k) ∧ (∀ r, r ≠ 49 → F2 r = FI r) ∧ Z t n sl SH F2 FL FR v st := by
  obtain ⟨w, n1, sl1, SH1, FI1, FL1, FR1, h, hz⟩ := h
  obtain ⟨e1, F2, e2, e3, e4, e5⟩ := c_popI hS hs hv h
  cases e2
  rw [e1] at hz
  exact ⟨_, e4, e5, fun k hk => by rw [e3, h_up_ne hk], fun r hr => by rw [e3, h_up_nc hr], hz⟩
theorem c_unaI {R : List Int64} (hS : h_S n SH) (hs : s.1 = t :: R) (hv : cvI FI FL FR SH s) (h : P_bi (RX9_popI n sl SH FI FL FR) (fun w n1 sl1 SH1 FI1 FL1 FR1 => P_bi (RX9_pushI (fX9_changedI c w SH1 FI1 FL1 FR1) n1 sl1 SH1 FI1 FL1 FR1) (fun v1 n1 sl1 SH1 FI1 FL1 FR1 => P_ret v1 (n1, sl1, SH1, FI1, FL1, FR1))) v st) (hy : ∀ F2 : Nat → Nat → Int32, fX9_changedI c t SH F2 FL FR = y) : crI n sl SH FI FL FR v st (.inr (y :: R, s.2)) := by
  have hln := hv.2.1
  rw [hs] at hln
  simp only [List.length_cons] at hln
  obtain ⟨F2, k1, k2, k3, k4, h⟩ := c_ppI hS hs hv h
  have h := c_puI hS k2 h
  rw [hy F2, cv_ps, if_neg (show ¬ R.length = 128 by omega)] at h
  exact crI_tr k1 (k3 6 (by first | decide | simp)) (k3 7 (by first | decide | simp)) (k3 10 (by first | decide | simp)) rfl rfl h
theorem c_holdI {k : Int32} {H : ms_H} (hS : h_S n SH) (hv : cvI FI FL FR SH s) (hk : k.toInt = H.1) (hy : y = H.2.1) (hok : ms_ok H) (h4 : H.1 ≠ 4) (h : P_bi (RX5_become 51 k y n sl SH FI FL FR) (fun v1 n1 sl1 SH1 FI1 FL1 FR1 => P_ret (0 : Int32) (n1, sl1, SH1, FI1, FL1, FR1)) v st) : crI n sl SH FI FL FR v st (.inr (s.1, H, s.2.2)) := by
  obtain ⟨w, n1, sl1, SH1, FI1, FL1, FR1, h, e1, e⟩ := h
  obtain ⟨F2, L2, e2, q1, q2, q3, q4, -, -⟩ := c_becomeI hS hv hk hy hok h4 h
  cases e2
  exact ⟨by rw [e1]; decide, _, _, _, e, q1, q2, by rw [q3 _ (by first | decide | simp)], by rw [q3 _ (by first | decide | simp)], by rw [q3 _ (by first | decide | simp)], by rw [q4 _ (by first | decide | simp)], by rw [q4 _ (by first | decide | simp)]⟩
theorem c_pbI {R : List Int64} {k : Int32} {m : Nat} (hS : h_S n SH) (hE : cE FI FL FR SH E) (hs : s.1 = t :: R) (hv : cvI FI FL FR SH s) (hk : k.toInt = m) (hm : m ≤ 8) {Z : (Nat → Nat → Int64) → Int32} (hZ : Z FL = k) (h : P_bi (RX9_popI n sl SH FI FL FR) (fun w n1 sl1 SH1 FI1 FL1 FR1 => P_bi (RX9_pushBytesI w (Z FL1) n1 sl1 SH1 FI1 FL1 FR1) (fun v1 n1 sl1 SH1 FI1 FL1 FR1 => P_ret v1 (n1, sl1, SH1, FI1, FL1, FR1))) v st) : crI n sl SH FI FL FR v st (if t.toInt < 0 ∨ 4096 - (m : Int) < t.toInt then .inl 5 else .inr (ms_rd E t.toInt.toNat m :: R, s.2)) := by
  have hln := hv.2.1
  rw [hs] at hln
  simp only [List.length_cons] at hln
  obtain ⟨F2, k1, k2, k3, k4, h⟩ := c_ppI hS hs hv h
  obtain ⟨v1, n1, sl1, SH1, FI1, FL1, FR1, h, e1, e⟩ := h
  rw [hZ] at h
  have hE2 := cE_kI hE (rg_of hS) k1
  unfold RX9_pushBytesI at h
  rw [c_has hS hk hm] at h
  rcases h with ⟨h0, e2, e3⟩ | ⟨h0, h⟩
  · rw [if_pos h0]
    rw [e3] at e
    exact crI_e (by rw [e1, e2]; decide) (by first | decide | simp) e k1
  · rw [if_neg h0]
    obtain ⟨w2, n2, sl2, SH2, FI2, FL2, FR2, hb, h⟩ := h
    obtain ⟨q1, q2⟩ := c_bytes hS hE2 hk hm (by omega) (by omega) hb
    cases q2
    rw [q1] at h
    have h := c_puI hS k2 h
    rw [cv_ps, if_neg (show ¬ R.length = 128 by omega)] at h
    rw [e1, e]
    exact crI_tr k1 (k3 6 (by first | decide | simp)) (k3 7 (by first | decide | simp)) (k3 10 (by first | decide | simp)) rfl rfl h
theorem c_oxI (hS : h_S n SH) (hE : cE FI FL FR SH E) (hv : cvI FI FL FR SH s) (hk : ms_kn c.toInt = true) (h12 : FL 49 12 = x.1) (h13 : c.toInt = 146 → FL 49 13 = x.2.1) (h158 : c.toInt = 158 → ∃ r D : Nat, a2 = some r ∧ (FL 49 13).toInt = D ∧ bk FI SH r D x.2.2.2 ∧ x.1.toInt = x.2.2.2.length ∧ x.2.2.2.length ≤ 100000 ∧ D ≤ 200000) (h21 : c.toInt = 21 → 0 ≤ x.1.toInt ∧ x.1.toInt ≤ 255) (hw : ¬ ((s.1.length : Int) < ms_wt c.toInt x.1)) (h14 : ¬ ((c.toInt = 144 ∨ c.toInt = 146) ∧ (x.1.toInt < 0 ∨ 31 < x.1.toInt))) (h10 : ¬ (c.toInt = 148 ∧ (x.1.toInt < 1 ∨ 8 < x.1.toInt))) (h9 : s.2.1.1 ≠ 0 → c.toInt = 150) (hn : ¬ (c.toInt = 47 ∨ c.toInt = 40 ∨ c.toInt = 152 ∨ c.toInt = 153 ∨ c.toInt = 145 ∨ c.toInt = 147 ∨ c.toInt = 157)) (h : RX9_operateI c a2 a3 n sl SH FI FL FR v st) : crI n sl SH FI FL FR v st (ms_cv s (ms_x E c.toInt x.1 x.2.1 x.2.2.2 s.1 s.2.1)) := by
  have kn := ms_kn_i hk
  have hsz := hv.1
  have hln := hv.2.1
  by_cases g48 : 48 ≤ c.toInt ∧ c.toInt ≤ 79
  · rw [mx_48 g48]
    have h := P_n (P_n h (by rw [show ((48 : Int32)).toInt = 48 by first | decide | simp]; omega)) (by rw [show ((79 : Int32)).toInt = 79 by first | decide | simp]; omega)
    have k1 : (c - (48 : Int32)).toInt = c.toInt - 48 := i_sub rfl (by first | decide | simp) (by omega) (by omega)
    rw [show (c - (48 : Int32)).toInt64 = Int64.ofInt (c.toInt - 48) from Int64.toInt_inj.mp (by rw [i_2l k1, Int64.toInt_ofInt, l_bm (by omega) (by omega)])] at h
    exact c_puI hS hv h
  by_cases g80 : 80 ≤ c.toInt ∧ c.toInt ≤ 111
  · rw [mx_80 g80]
    have h := P_n (P_n (c_o22I (by omega) h) (by rw [show ((80 : Int32)).toInt = 80 by first | decide | simp]; omega)) (by rw [show ((111 : Int32)).toInt = 111 by first | decide | simp]; omega)
    have k1 : (c - (80 : Int32)).toInt = c.toInt - 80 := i_sub rfl (by first | decide | simp) (by omega) (by omega)
    have k3 : (Int64.ofInt (c.toInt - 80)).toInt = c.toInt - 80 := by rw [Int64.toInt_ofInt, l_bm (by omega) (by omega)]
    exact c_holdI (H := (2, Int64.ofInt (c.toInt - 80), [])) hS hv (by first | decide | simp) (Int64.toInt_inj.mp (by rw [i_2l k1, k3])) (Or.inr (Or.inr (Or.inl ⟨rfl, rfl, by rw [k3]; omega, by rw [k3]; omega⟩))) (by first | decide | simp) h
  by_cases g112 : 112 ≤ c.toInt ∧ c.toInt ≤ 143
  · rw [mx_112 g112]
    have h := P_n (P_n (c_o49I (by omega) h) (by rw [show ((112 : Int32)).toInt = 112 by first | decide | simp]; omega)) (by rw [show ((143 : Int32)).toInt = 143 by first | decide | simp]; omega)
    have k1 : (c - (112 : Int32)).toInt = c.toInt - 112 := i_sub rfl (by first | decide | simp) (by omega) (by omega)
    rw [c_reg hS hE (by rw [i_2l k1]; omega) (by rw [i_2l k1]; omega), i_2l k1, h12] at h
    exact c_puI hS hv h
  by_cases g3 : c.toInt = 3 ∨ (8 ≤ c.toInt ∧ c.toInt ≤ 17)
  · rw [mx_3 g3]
    have h := c_o84I (by omega) h
    unfold RX9_operateI_84 at h
    rw [h12, show ((3 : Int32)).toInt = 3 by first | decide | simp, show ((8 : Int32)).toInt = 8 by first | decide | simp, show ((17 : Int32)).toInt = 17 by first | decide | simp] at h
    rcases h with ⟨-, h⟩ | ⟨q, h⟩
    · exact c_puI hS hv h
    · exact c_puI hS hv (P_n (P_n h (by omega)) (by omega))
  by_cases gs : 18 ≤ c.toInt ∧ c.toInt ≤ 23
  · have h := P_n (P_n (c_o110I (by omega) (by omega) (by omega) h) (by rw [show ((18 : Int32)).toInt = 18 by first | decide | simp]; omega)) (by rw [show ((23 : Int32)).toInt = 23 by first | decide | simp]; omega)
    obtain ⟨v1, n1, sl1, SH1, FI1, FL1, FR1, h, e1, e⟩ := h
    rw [e1, e]
    by_cases g18 : c.toInt = 18
    · rw [wt_1 (by omega)] at hw
      obtain ⟨t, R, hs⟩ := sh_1 hw
      have h := P_p h g18
      rw [c_belowI (y := t) (k := 0) hS hv (by first | decide | simp) (by rw [hs]; rfl)] at h
      have h := c_puI hS hv h
      rw [hs] at h ⊢
      rw [mx_18 g18]
      exact h
    have h := P_n h g18
    by_cases g19 : c.toInt = 19
    · rw [wt_1 (by omega)] at hw
      obtain ⟨t, R, hs⟩ := sh_1 hw
      obtain ⟨F2, k1, k2, k3, k4, h⟩ := c_ppI hS hs hv (P_p h g19)
      rw [hs, mx_19 g19]
      exact ⟨by rw [h.1]; decide, _, _, _, h.2, k1, k2, k3 6 (by first | decide | simp), k3 7 (by first | decide | simp), k3 10 (by first | decide | simp), rfl, rfl⟩
    have h := P_n h g19
    by_cases g20 : c.toInt = 20
    · rw [wt_2 (by omega)] at hw
      obtain ⟨t, y, Q, hs⟩ := sh_2 hw
      have h := P_p h g20
      rw [c_belowI (y := y) (k := 1) hS hv (by first | decide | simp) (by rw [hs]; rfl)] at h
      have h := c_puI hS hv h
      rw [hs] at h ⊢
      rw [mx_20 g20]
      exact h
    have h := P_n h g20
    by_cases g21 : c.toInt = 21
    · obtain ⟨b0, b1⟩ := h21 g21
      unfold ms_wt at hw
      rw [if_neg (by omega), if_neg (by omega), if_pos g21] at hw
      have h := P_p h g21
      obtain ⟨z, hz⟩ : ∃ z, s.1[x.1.toInt.toNat]? = some z := ⟨_, List.getElem?_eq_getElem (by omega)⟩
      rw [c_belowI (y := z) (k := x.1.toInt.toNat) hS hv (by rw [h12, l_2i rfl (by omega) (by omega)]; omega) hz] at h
      have h := c_puI hS hv h
      cases hs : s.1 with
      | nil => rw [hs] at hz; cases hz
      | cons t R =>
        rw [hs] at h hz
        rw [mx_21 g21, List.getD_eq_getElem?_getD, hz]
        exact h
    have h := P_n h g21
    have hw2 : ¬ ((s.1.length : Int) < 2) := by
      by_cases g22 : c.toInt = 22
      · rw [wt_2 (by omega)] at hw; exact hw
      · rw [wt_3 (by omega)] at hw; omega
    obtain ⟨t, y, Q, hs⟩ := sh_2 hw2
    obtain ⟨F2, k1, k2, k3, k4, h⟩ := c_ppI hS hs hv h
    obtain ⟨F3, m1, m2, m3, m4, h⟩ := c_ppI (s := (y :: Q, s.2)) hS rfl k2 h
    have e6 : ∀ k, k ≠ 5 → F3 49 k = FI 49 k := fun k hk => (m3 k hk).trans (k3 k hk)
    have kk := kzI_tr k1 m1
    rw [hs] at hln
    simp only [List.length_cons] at hln
    rw [show ((22 : Int32)).toInt = 22 by first | decide | simp] at h
    rcases h with ⟨g22, h⟩ | ⟨g22, h⟩
    · rw [hs, mx_22 g22]
      obtain ⟨w1, n4, sl4, SH4, FI4, FL4, FR4, p1, h⟩ := h
      have p1 := c_pushI hS m2 p1
      rw [if_neg (show ¬ Q.length = 128 by omega)] at p1
      obtain ⟨-, F4, L4, R4, q1, q2, q3, q4, q5, q6, q7, q8⟩ := p1
      cases q1
      have p2 := c_puI hS q3 h
      rw [cv_ps, if_neg (show ¬ (t :: Q).length = 128 by simp only [List.length_cons]; omega)] at p2
      exact crI_tr (kzI_tr kk q2) (q4.trans (e6 6 (by first | decide | simp))) (q5.trans (e6 7 (by first | decide | simp))) (q6.trans (e6 10 (by first | decide | simp))) q7 q8 p2
    · have g23 : c.toInt = 23 := by omega
      rw [wt_3 g23] at hw
      obtain ⟨t', y', r, Q', hs'⟩ := sh_3 hw
      rw [hs] at hs'
      have eq : Q = r :: Q' := (List.cons.inj (List.cons.inj hs').2).2
      subst eq
      simp only [List.length_cons] at hln
      rw [hs, mx_23 g23]
      obtain ⟨F5, u1, u2, u3, u4, h⟩ := c_ppI (s := (r :: Q', s.2)) hS rfl m2 h
      obtain ⟨w1, n4, sl4, SH4, FI4, FL4, FR4, p1, h⟩ := h
      have p1 := c_pushI hS u2 p1
      rw [if_neg (show ¬ Q'.length = 128 by omega)] at p1
      obtain ⟨-, F4, L4, R4, q1, q2, q3, q4, q5, q6, q7, q8⟩ := p1
      cases q1
      obtain ⟨w2, n6, sl6, SH6, FI6, FL6, FR6, p2, h⟩ := h
      have p2 := c_pushI hS q3 p2
      rw [if_neg (show ¬ (t :: Q').length = 128 by simp only [List.length_cons]; omega)] at p2
      obtain ⟨-, F6, L6, R6, z1, z2, z3, z4, z5, z6, z7, z8⟩ := p2
      cases z1
      have p3 := c_puI hS z3 h
      rw [cv_ps, if_neg (show ¬ (r :: t :: Q').length = 128 by simp only [List.length_cons]; omega)] at p3
      exact crI_tr (kzI_tr (kzI_tr (kzI_tr kk u1) q2) z2) (z4.trans (q4.trans ((u3 6 (by first | decide | simp)).trans (e6 6 (by first | decide | simp))))) (z5.trans (q5.trans ((u3 7 (by first | decide | simp)).trans (e6 7 (by first | decide | simp))))) (z6.trans (q6.trans ((u3 10 (by first | decide | simp)).trans (e6 10 (by first | decide | simp))))) (z7.trans q7) (z8.trans q8) p3
  by_cases gu : 25 ≤ c.toInt ∧ c.toInt ≤ 46
  · have h := c_o128I (by omega) (by omega) (by omega) h
    by_cases g25 : c.toInt = 25
    · rw [wt_1 (by omega)] at hw
      obtain ⟨t, R, hs⟩ := sh_1 hw
      have h := c_unaI hS hs hv (P_p h (by rw [show ((25 : Int32)).toInt = 25 by first | decide | simp]; exact g25)) (y := if t.toInt < 0 then -t else t) (fun F2 => by unfold fX9_changedI; rw [if_pos g25, show ((0 : Int64)).toInt = 0 by first | decide | simp])
      rw [hs, mx_25 g25]
      exact h
    have h := P_n h (by rw [show ((25 : Int32)).toInt = 25 by first | decide | simp]; exact g25)
    by_cases g31 : c.toInt = 31
    · rw [wt_1 (by omega)] at hw
      obtain ⟨t, R, hs⟩ := sh_1 hw
      have h := c_unaI hS hs hv (P_p h (by rw [show ((31 : Int32)).toInt = 31 by first | decide | simp]; exact g31)) (y := -t) (fun F2 => by unfold fX9_changedI; rw [if_neg (by omega), if_pos g31])
      rw [hs, mx_31 g31]
      exact h
    have h := P_n h (by rw [show ((31 : Int32)).toInt = 31 by first | decide | simp]; exact g31)
    by_cases g32 : c.toInt = 32
    · rw [wt_1 (by omega)] at hw
      obtain ⟨t, R, hs⟩ := sh_1 hw
      have h := c_unaI hS hs hv (P_p h (by rw [show ((32 : Int32)).toInt = 32 by first | decide | simp]; exact g32)) (y := t ^^^ (-1 : Int64)) (fun F2 => by unfold fX9_changedI; rw [if_neg (by omega), if_neg (by omega), if_pos g32])
      rw [hs, mx_32 g32]
      exact h
    have h := P_n h (by rw [show ((32 : Int32)).toInt = 32 by first | decide | simp]; exact g32)
    by_cases g35 : c.toInt = 35
    · rw [wt_1 (by omega)] at hw
      obtain ⟨t, R, hs⟩ := sh_1 hw
      have h := c_unaI hS hs hv (P_p h (by rw [show ((35 : Int32)).toInt = 35 by first | decide | simp]; exact g35)) (y := t + x.1) (fun F2 => by unfold fX9_changedI; rw [if_neg (by omega), if_neg (by omega), if_neg (by omega), h12])
      rw [hs, mx_35 g35]
      exact h
    have h := P_n h (by rw [show ((35 : Int32)).toInt = 35 by first | decide | simp]; exact g35)
    have h := P_n (P_n h (by rw [show ((26 : Int32)).toInt = 26 by first | decide | simp]; omega)) (by rw [show ((46 : Int32)).toInt = 46 by first | decide | simp]; omega)
    rw [wt_2 (by omega)] at hw
    obtain ⟨t, y, Q, hs⟩ := sh_2 hw
    obtain ⟨F2, k1, k2, k3, k4, h⟩ := c_ppI hS hs hv h
    obtain ⟨F3, m1, m2, m3, m4, h⟩ := c_ppI (s := (y :: Q, s.2)) hS rfl k2 h
    have e6 : ∀ k, k ≠ 5 → F3 49 k = FI 49 k := fun k hk => (m3 k hk).trans (k3 k hk)
    have kk := kzI_tr k1 m1
    rw [hs] at hln
    simp only [List.length_cons] at hln
    rw [hs, mx_bin (by omega)]
    have fin : ∀ _ : ¬ ((c.toInt = 27 ∨ c.toInt = 29) ∧ t.toInt = 0), P_bi (RX9_pushI (fX9_joined c y t SH F3 FL FR) n sl SH F3 FL FR) (fun v1 n1 sl1 SH1 FI1 FL1 FR1 => P_ret v1 (n1, sl1, SH1, FI1, FL1, FR1)) v st → crI n sl SH FI FL FR v st (ms_cv s (if (c.toInt = 27 ∨ c.toInt = 29) ∧ t.toInt = 0 then .inl 6 else .inr (ms_wk c.toInt y t :: Q, s.2.1))) := by
      intro hz h
      rw [if_neg hz]
      rw [wj (by omega) hz] at h
      have h := c_puI hS m2 h
      rw [cv_ps, if_neg (show ¬ Q.length = 128 by omega)] at h
      exact crI_tr kk (e6 6 (by first | decide | simp)) (e6 7 (by first | decide | simp)) (e6 10 (by first | decide | simp)) rfl rfl h
    have f202 : c.toInt = 27 ∨ c.toInt = 29 → RX9_operateI_202 c a2 a3 t y n sl SH F3 FL FR v st → crI n sl SH FI FL FR v st (ms_cv s (if (c.toInt = 27 ∨ c.toInt = 29) ∧ t.toInt = 0 then .inl 6 else .inr (ms_wk c.toInt y t :: Q, s.2.1))) := by
      intro hc h
      unfold RX9_operateI_202 at h
      rw [show ((0 : Int64)).toInt = 0 by first | decide | simp] at h
      rcases h with ⟨h0, e1, e⟩ | ⟨h0, h⟩
      · rw [if_pos ⟨hc, h0⟩]
        exact crI_e (by rw [e1]; decide) (by first | decide | simp) e kk
      · exact fin (fun e => h0 e.2) h
    rw [show ((27 : Int32)).toInt = 27 by first | decide | simp, show ((29 : Int32)).toInt = 29 by first | decide | simp] at h
    rcases h with ⟨q1, h⟩ | ⟨q1, h⟩
    · exact f202 (Or.inl q1) h
    · rcases h with ⟨q2, h⟩ | ⟨q2, h⟩
      · exact f202 (Or.inr q2) h
      · exact fin (fun e => e.1.elim q1 q2) h
  by_cases g158 : c.toInt = 158
  · have h := P_p (P_n (P_n (c_o227I (by omega) h) (by rw [show ((147 : Int32)).toInt = 147 by first | decide | simp]; omega)) (by rw [show ((157 : Int32)).toInt = 157 by first | decide | simp]; omega)) (by rw [show ((158 : Int32)).toInt = 158 by first | decide | simp]; omega)
    obtain ⟨v1, n1, sl1, SH1, FI1, FL1, FR1, h, e1, e⟩ := h
    have h := P_p h (by rw [show ((158 : Int32)).toInt = 158 by first | decide | simp]; exact g158)
    obtain ⟨v2, n2, sl2, SH2, FI2, FL2, FR2, h, e3, e4⟩ := h
    obtain ⟨w3, n3, sl3, SH3, FI3, FL3, FR3, h, -, e5⟩ := h
    have e6 := h.2
    cases e6
    cases e5
    rw [e4] at e
    obtain ⟨r, D, d1, d2, d3, d4, d5, d6⟩ := h158 g158
    rw [mx_158 g158]
    have hr := rg_of hS
    refine ⟨by rw [e1, e3]; decide, _, _, _, e, kzI_r (kzI_i (kzI_i (kzI_i (kzI_i (kzI_l kzI_rf (by first | decide | simp)) (by first | decide | simp)) (by first | decide | simp)) (by first | decide | simp)) (by first | decide | simp)) (by first | decide | simp) (by omega), cvI_hd (H := (4, x.1, x.2.2.2)) hv hr (fun r h1 => by rw [h_up_nc h1, h_up_nc h1, h_up_nc h1, h_up_nc h1]) (fun r h1 => h_up_nc h1) (fun r h1 => h_up_nc h1) ⟨⟨?_, ?_, Or.inr (Or.inr (Or.inr (Or.inr ⟨rfl, d4⟩))), fun _ => ⟨r, D, ?_, ?_, bk_fr d3 ?_⟩⟩, by rw [h_up_ne (by first | decide | simp), h_up_ne (by first | decide | simp), h_up_eq], by rw [h_up_ne (by first | decide | simp), h_up_eq]⟩, ?_, ?_, ?_, ?_, ?_⟩
    · rw [h_up_ne (by first | decide | simp), h_up_ne (by first | decide | simp), h_up_ne (by first | decide | simp), h_up_eq]; rfl
    · rw [h_up_eq, h12]
      exact Int64.toInt_inj.mp (i_2l (l_2i (A := x.1.toInt) rfl (by omega) (by omega)))
    · rw [h_up_eq]; exact d1
    · rw [h_up_eq]; exact l_2i d2 (by omega) (by omega)
    · have := hr r d3.1
      rw [h_up_nc (by omega), h_up_nc (by omega), h_up_nc (by omega), h_up_nc (by omega)]
    · rw [h_up_nc (by first | decide | simp), h_up_nc (by first | decide | simp), h_up_nc (by first | decide | simp), h_up_nc (by first | decide | simp)]
    · rw [h_up_nc (by first | decide | simp), h_up_nc (by first | decide | simp), h_up_nc (by first | decide | simp), h_up_nc (by first | decide | simp)]
    · rw [h_up_nc (by first | decide | simp), h_up_nc (by first | decide | simp), h_up_nc (by first | decide | simp), h_up_nc (by first | decide | simp)]
    · rw [h_up_nc (by first | decide | simp)]
    · rw [h_up_nc (by first | decide | simp)]
  by_cases g159 : c.toInt = 159
  · have h := P_p (P_n (P_n (P_n (c_o227I (by omega) h) (by rw [show ((147 : Int32)).toInt = 147 by first | decide | simp]; omega)) (by rw [show ((157 : Int32)).toInt = 157 by first | decide | simp]; omega)) (by rw [show ((158 : Int32)).toInt = 158 by first | decide | simp]; omega)) (by rw [show ((159 : Int32)).toInt = 159 by first | decide | simp]; omega)
    obtain ⟨v1, n1, sl1, SH1, FI1, FL1, FR1, h, e1, e⟩ := h
    have h := P_n h (by rw [show ((158 : Int32)).toInt = 158 by first | decide | simp]; exact g158)
    rw [wt_1 (by omega)] at hw
    obtain ⟨t, R, hs⟩ := sh_1 hw
    obtain ⟨F2, k1, k2, k3, k4, h⟩ := c_ppI hS hs hv h
    rw [hs, mx_159 g159, e1, e]
    exact crI_tr k1 (k3 6 (by first | decide | simp)) (k3 7 (by first | decide | simp)) (k3 10 (by first | decide | simp)) rfl rfl (c_holdI (H := (3, t, [])) hS k2 (by first | decide | simp) rfl (Or.inr (Or.inr (Or.inr (Or.inl ⟨rfl, rfl⟩)))) (by first | decide | simp) h)
  have h := c_oaskI (by omega) (by omega) h
  by_cases g6 : c.toInt = 6
  · rw [wt_1 (by omega)] at hw
    obtain ⟨t, R, hs⟩ := sh_1 hw
    have h := c_pbI (m := 8) (k := (8 : Int32)) (Z := fun _ => (8 : Int32)) hS hE hs hv (by first | decide | simp) (by first | decide | simp) rfl (P_p h g6)
    rw [hs, mx_6 g6]
    by_cases q : t.toInt < 0 ∨ 4088 < t.toInt
    · rw [if_pos q]; rw [if_pos (by omega)] at h; exact h
    · rw [if_neg q]; rw [if_neg (by omega)] at h; exact h
  have h := P_n h g6
  by_cases g144 : c.toInt = 144
  · rw [mx_144 g144]
    have h := P_p h g144
    rw [h12] at h
    exact c_holdI (H := (2, x.1, [])) hS hv (by first | decide | simp) rfl (Or.inr (Or.inr (Or.inl ⟨rfl, rfl, by show 0 ≤ x.1.toInt; omega, by show x.1.toInt ≤ 31; omega⟩))) (by first | decide | simp) h
  have h := P_n (P_n h g144) (by omega)
  by_cases g146 : c.toInt = 146
  · rw [mx_146 g146]
    have h := P_p h g146
    rw [h12, c_reg hS hE (by omega) (by omega), h13 g146] at h
    exact c_puI hS hv h
  have h := P_n h g146
  by_cases g148 : c.toInt = 148
  · rw [wt_1 (by omega)] at hw
    obtain ⟨t, R, hs⟩ := sh_1 hw
    have h := c_pbI (m := x.1.toInt.toNat) (k := x.1.toInt32) (Z := fun L => (L 49 12).toInt32) hS hE hs hv (by rw [l_2i rfl (by omega) (by omega)]; omega) (by omega) (by rw [h12]) (P_p h g148)
    rw [hs, mx_148 g148]
    by_cases q : t.toInt < 0 ∨ 4096 - x.1.toInt < t.toInt
    · rw [if_pos q]; rw [if_pos (by omega)] at h; exact h
    · rw [if_neg q]; rw [if_neg (by omega)] at h; exact h
  have h := P_n h g148
  by_cases g151 : c.toInt = 151
  · rw [mx_151 g151]
    have h := P_p h g151
    rcases hE.2.2.2.2.2.2.1 with ⟨q1, q2⟩ | ⟨q1, q2⟩
    · rw [q2]
      have h := P_p h q1
      exact crI_e (by rw [h.1]; decide) (by first | decide | simp) h.2 kzI_rf
    · rw [q2]
      exact c_puI hS hv (P_n h q1)
  have h := P_n h g151
  by_cases g155 : c.toInt = 155
  · rw [wt_1 (by omega)] at hw
    obtain ⟨t, R, hs⟩ := sh_1 hw
    have h := P_p h g155
    rw [hs, mx_155 g155]
    rcases hE.2.2.2.2.2.2.2 with ⟨q1, q2⟩ | ⟨q1, q2⟩
    · rw [q2]
      have h := P_p h q1
      exact crI_e (by rw [h.1]; decide) (by first | decide | simp) h.2 kzI_rf
    · rw [q2]
      obtain ⟨F2, k1, k2, k3, k4, h⟩ := c_ppI hS hs hv (P_n h q1)
      have h := c_puI hS k2 h
      rw [hs] at hln
      simp only [List.length_cons] at hln
      rw [cv_ps, if_neg (show ¬ R.length = 128 by omega)] at h
      exact crI_tr k1 (k3 6 (by first | decide | simp)) (k3 7 (by first | decide | simp)) (k3 10 (by first | decide | simp)) rfl rfl h
  have h := P_n h g155
  by_cases g156 : c.toInt = 156
  · rw [mx_156 g156]
    have h := P_p h g156
    obtain ⟨q1, q2, q3⟩ := hE.2.2.2.2.1
    rw [q1, show ((-1 : Int32)).toInt = -1 by first | decide | simp] at h
    rcases h with ⟨h0, e1, e⟩ | ⟨h0, h⟩
    · rw [if_pos h0]
      exact crI_e (by rw [e1]; decide) (by first | decide | simp) e kzI_rf
    · rw [if_neg h0]
      have ev : fX1_cfaValue SH FI FL FR = ms_rg E (ms_cr E).toNat + ms_co E := by
        unfold fX1_cfaValue
        rw [c_reg hS hE (by rw [i_2l q1]; omega) (by rw [i_2l q1]; omega), i_2l q1, hE.2.2.2.2.2.1]
      rw [ev] at h
      exact c_puI hS hv h
  have h := P_n h g156
  have g150 : c.toInt = 150 := by omega
  rw [mx_150 g150]
  exact ⟨by rw [h.1]; decide, _, _, _, h.2, kzI_rf, hv, rfl, rfl, rfl, rfl, rfl⟩
end COI
section CO
variable {n sl : Nat} {SH : Nat → Nat × Nat} {FI F1 : Nat → Nat → Int32} {FL L1 : Nat → Nat → Int64} {FR R1 : Nat → Nat → Option Nat} {c a3 v : Int32} {a2 : Option Nat} {st : hS} {s : ms_S} {x : ms_O} {E : ms_E} {y t : Int64}
theorem c_pu (hS : h_S n SH) (hv : cv FI FL FR SH s) (h : P_bi (RX9_push y n sl SH FI FL FR) (fun v1 n1 sl1 SH1 FI1 FL1 FR1 => P_ret v1 (n1, sl1, SH1, FI1, FL1, FR1)) v st) : cr n sl SH FI FL FR v st (ms_cv s (ms_ps y s.1 s.2.1)) := by
  obtain ⟨v1, n1, sl1, SH1, FI1, FL1, FR1, h, e1, e⟩ := h
  rw [cv_ps, e1, e]
  exact c_push hS hv h
theorem c_o22 (hc : c.toInt < 48 ∨ 79 < c.toInt) (h : RX9_operate c a2 a3 n sl SH FI FL FR v st) : RX9_operate_22 c a2 a3 n sl SH FI FL FR v st := by
  rcases h with ⟨-, h⟩ | ⟨q, h⟩
  · exact h
  · exact P_p h (by rw [show ((48 : Int32)).toInt = 48 by first | decide | simp] at q; rw [show ((79 : Int32)).toInt = 79 by first | decide | simp]; omega)
theorem c_o49 (hc : c.toInt < 48 ∨ (111 < c.toInt)) (h : RX9_operate c a2 a3 n sl SH FI FL FR v st) : RX9_operate_49 c a2 a3 n sl SH FI FL FR v st := by
  rcases c_o22 (by omega) h with ⟨-, h⟩ | ⟨q, h⟩
  · exact h
  · exact P_p h (by rw [show ((80 : Int32)).toInt = 80 by first | decide | simp] at q; rw [show ((111 : Int32)).toInt = 111 by first | decide | simp]; omega)
theorem c_o84 (hc : c.toInt < 48 ∨ 143 < c.toInt) (h : RX9_operate c a2 a3 n sl SH FI FL FR v st) : RX9_operate_84 c a2 a3 n sl SH FI FL FR v st := by
  rcases c_o49 (by omega) h with ⟨-, h⟩ | ⟨q, h⟩
  · exact h
  · exact P_p h (by rw [show ((112 : Int32)).toInt = 112 by first | decide | simp] at q; rw [show ((143 : Int32)).toInt = 143 by first | decide | simp]; omega)
theorem c_o110 (hc : c.toInt < 48 ∨ 143 < c.toInt) (h3 : c.toInt ≠ 3) (h8 : c.toInt < 8 ∨ 17 < c.toInt) (h : RX9_operate c a2 a3 n sl SH FI FL FR v st) : RX9_operate_110 c a2 a3 n sl SH FI FL FR v st := by
  have h := P_n (c_o84 hc h) (by rw [show ((3 : Int32)).toInt = 3 by first | decide | simp]; exact h3)
  rcases h with ⟨-, h⟩ | ⟨q, h⟩
  · exact h
  · exact P_p h (by rw [show ((8 : Int32)).toInt = 8 by first | decide | simp] at q; rw [show ((17 : Int32)).toInt = 17 by first | decide | simp]; omega)
theorem c_o128 (hc : c.toInt < 48 ∨ 143 < c.toInt) (h3 : c.toInt ≠ 3) (h8 : c.toInt < 8 ∨ 23 < c.toInt) (h : RX9_operate c a2 a3 n sl SH FI FL FR v st) : RX9_operate_128 c a2 a3 n sl SH FI FL FR v st := by
  rcases c_o110 hc h3 (by omega) h with ⟨-, h⟩ | ⟨q, h⟩
  · exact h
  · exact P_p h (by rw [show ((18 : Int32)).toInt = 18 by first | decide | simp] at q; rw [show ((23 : Int32)).toInt = 23 by first | decide | simp]; omega)
theorem c_o227 (hc : c.toInt = 6 ∨ 143 < c.toInt) (h : RX9_operate c a2 a3 n sl SH FI FL FR v st) : RX9_operate_227 c a2 a3 n sl SH FI FL FR v st := by
  have h := c_o128 (by omega) (by omega) (by omega) h
  have h := P_n (P_n (P_n (P_n h (by rw [show ((25 : Int32)).toInt = 25 by first | decide | simp]; omega)) (by rw [show ((31 : Int32)).toInt = 31 by first | decide | simp]; omega)) (by rw [show ((32 : Int32)).toInt = 32 by first | decide | simp]; omega)) (by rw [show ((35 : Int32)).toInt = 35 by first | decide | simp]; omega)
  rcases h with ⟨-, h⟩ | ⟨q, h⟩
  · exact h
  · exact P_p h (by rw [show ((26 : Int32)).toInt = 26 by first | decide | simp] at q; rw [show ((46 : Int32)).toInt = 46 by first | decide | simp]; omega)
theorem c_oask (hc : c.toInt = 6 ∨ 143 < c.toInt) (hn : ¬ (c.toInt = 147 ∨ c.toInt = 157 ∨ c.toInt = 158 ∨ c.toInt = 159)) (h : RX9_operate c a2 a3 n sl SH FI FL FR v st) : RX9_ask c a3 n sl SH FI FL FR v st := by
  have h := P_n (P_n (P_n (P_n (c_o227 hc h) (by rw [show ((147 : Int32)).toInt = 147 by first | decide | simp]; omega)) (by rw [show ((157 : Int32)).toInt = 157 by first | decide | simp]; omega)) (by rw [show ((158 : Int32)).toInt = 158 by first | decide | simp]; omega)) (by rw [show ((159 : Int32)).toInt = 159 by first | decide | simp]; omega)
  obtain ⟨v1, n1, sl1, SH1, FI1, FL1, FR1, h, e1, e⟩ := h
  rw [e1, e]
  exact h
/-- one is taken away, one comes -/
theorem c_pp {R : List Int64} {Z : Int64 → Nat → Nat → (Nat → Nat × Nat) → (Nat → Nat → Int32) → (Nat → Nat → Int64) → (Nat → Nat → Option Nat) → Int32 → hS → Prop} (hS : h_S n SH) (hs : s.1 = t :: R) (hv : cv FI FL FR SH s) (h : P_bi (RX9_pop n sl SH FI FL FR) Z v st) : ∃ F2, kz FI FL FR F2 FL FR ∧ cv F2 FL FR SH (R, s.2) ∧ (∀ k, k ≠ 5 → F2 48 k = FI 48 k) ∧ (∀ r, r ≠ 48 → F2 r = FI r) ∧ Z t n sl SH F2 FL FR v st := by
  obtain ⟨w, n1, sl1, SH1, FI1, FL1, FR1, h, hz⟩ := h
  obtain ⟨e1, F2, e2, e3, e4, e5⟩ := c_pop hS hs hv h
  cases e2
  rw [e1] at hz
  exact ⟨_, e4, e5, fun k hk => by rw [e3, h_up_ne hk], fun r hr => by rw [e3, h_up_nc hr], hz⟩
theorem c_una {R : List Int64} (hS : h_S n SH) (hs : s.1 = t :: R) (hv : cv FI FL FR SH s) (h : P_bi (RX9_pop n sl SH FI FL FR) (fun w n1 sl1 SH1 FI1 FL1 FR1 => P_bi (RX9_push (fX9_changed c w SH1 FI1 FL1 FR1) n1 sl1 SH1 FI1 FL1 FR1) (fun v1 n1 sl1 SH1 FI1 FL1 FR1 => P_ret v1 (n1, sl1, SH1, FI1, FL1, FR1))) v st) (hy : ∀ F2 : Nat → Nat → Int32, fX9_changed c t SH F2 FL FR = y) : cr n sl SH FI FL FR v st (.inr (y :: R, s.2)) := by
  have hln := hv.2.1
  rw [hs] at hln
  simp only [List.length_cons] at hln
  obtain ⟨F2, k1, k2, k3, k4, h⟩ := c_pp hS hs hv h
  have h := c_pu hS k2 h
  rw [hy F2, cv_ps, if_neg (show ¬ R.length = 128 by omega)] at h
  exact cr_tr k1 (k3 6 (by first | decide | simp)) (k3 7 (by first | decide | simp)) (k3 10 (by first | decide | simp)) rfl rfl h
theorem c_hold {k : Int32} {H : ms_H} (hS : h_S n SH) (hv : cv FI FL FR SH s) (hk : k.toInt = H.1) (hy : y = H.2.1) (hok : ms_ok H) (h4 : H.1 ≠ 4) (h : P_bi (RX5_become 71 k y n sl SH FI FL FR) (fun v1 n1 sl1 SH1 FI1 FL1 FR1 => P_ret (0 : Int32) (n1, sl1, SH1, FI1, FL1, FR1)) v st) : cr n sl SH FI FL FR v st (.inr (s.1, H, s.2.2)) := by
  obtain ⟨w, n1, sl1, SH1, FI1, FL1, FR1, h, e1, e⟩ := h
  obtain ⟨F2, L2, e2, q1, q2, q3, q4, -, -⟩ := c_become hS hv hk hy hok h4 h
  cases e2
  exact ⟨by rw [e1]; decide, _, _, _, e, q1, q2, by rw [q3 _ (by first | decide | simp)], by rw [q3 _ (by first | decide | simp)], by rw [q3 _ (by first | decide | simp)], by rw [q4 _ (by first | decide | simp)], by rw [q4 _ (by first | decide | simp)]⟩
theorem c_pb {R : List Int64} {k : Int32} {m : Nat} (hS : h_S n SH) (hE : cE FI FL FR SH E) (hs : s.1 = t :: R) (hv : cv FI FL FR SH s) (hk : k.toInt = m) (hm : m ≤ 8) {Z : (Nat → Nat → Int64) → Int32} (hZ : Z FL = k) (h : P_bi (RX9_pop n sl SH FI FL FR) (fun w n1 sl1 SH1 FI1 FL1 FR1 => P_bi (RX9_pushBytes w (Z FL1) n1 sl1 SH1 FI1 FL1 FR1) (fun v1 n1 sl1 SH1 FI1 FL1 FR1 => P_ret v1 (n1, sl1, SH1, FI1, FL1, FR1))) v st) : cr n sl SH FI FL FR v st (if t.toInt < 0 ∨ 4096 - (m : Int) < t.toInt then .inl 5 else .inr (ms_rd E t.toInt.toNat m :: R, s.2)) := by
  have hln := hv.2.1
  rw [hs] at hln
  simp only [List.length_cons] at hln
  obtain ⟨F2, k1, k2, k3, k4, h⟩ := c_pp hS hs hv h
  obtain ⟨v1, n1, sl1, SH1, FI1, FL1, FR1, h, e1, e⟩ := h
  rw [hZ] at h
  have hE2 := cE_k hE (rg_of hS) k1
  unfold RX9_pushBytes at h
  rw [c_has hS hk hm] at h
  rcases h with ⟨h0, e2, e3⟩ | ⟨h0, h⟩
  · rw [if_pos h0]
    rw [e3] at e
    exact cr_e (by rw [e1, e2]; decide) (by first | decide | simp) e k1
  · rw [if_neg h0]
    obtain ⟨w2, n2, sl2, SH2, FI2, FL2, FR2, hb, h⟩ := h
    obtain ⟨q1, q2⟩ := c_bytes hS hE2 hk hm (by omega) (by omega) hb
    cases q2
    rw [q1] at h
    have h := c_pu hS k2 h
    rw [cv_ps, if_neg (show ¬ R.length = 128 by omega)] at h
    rw [e1, e]
    exact cr_tr k1 (k3 6 (by first | decide | simp)) (k3 7 (by first | decide | simp)) (k3 10 (by first | decide | simp)) rfl rfl h
theorem c_ox (hS : h_S n SH) (hE : cE FI FL FR SH E) (hv : cv FI FL FR SH s) (hk : ms_kn c.toInt = true) (h12 : FL 48 12 = x.1) (h13 : c.toInt = 146 → FL 48 13 = x.2.1) (h158 : c.toInt = 158 → ∃ r D : Nat, a2 = some r ∧ (FL 48 13).toInt = D ∧ bk FI SH r D x.2.2.2 ∧ x.1.toInt = x.2.2.2.length ∧ x.2.2.2.length ≤ 100000 ∧ D ≤ 200000) (h21 : c.toInt = 21 → 0 ≤ x.1.toInt ∧ x.1.toInt ≤ 255) (hw : ¬ ((s.1.length : Int) < ms_wt c.toInt x.1)) (h14 : ¬ ((c.toInt = 144 ∨ c.toInt = 146) ∧ (x.1.toInt < 0 ∨ 31 < x.1.toInt))) (h10 : ¬ (c.toInt = 148 ∧ (x.1.toInt < 1 ∨ 8 < x.1.toInt))) (h9 : s.2.1.1 ≠ 0 → c.toInt = 150) (hn : ¬ (c.toInt = 47 ∨ c.toInt = 40 ∨ c.toInt = 152 ∨ c.toInt = 153 ∨ c.toInt = 145 ∨ c.toInt = 147 ∨ c.toInt = 157)) (h : RX9_operate c a2 a3 n sl SH FI FL FR v st) : cr n sl SH FI FL FR v st (ms_cv s (ms_x E c.toInt x.1 x.2.1 x.2.2.2 s.1 s.2.1)) := by
  have kn := ms_kn_i hk
  have hsz := hv.1
  have hln := hv.2.1
  by_cases g48 : 48 ≤ c.toInt ∧ c.toInt ≤ 79
  · rw [mx_48 g48]
    have h := P_n (P_n h (by rw [show ((48 : Int32)).toInt = 48 by first | decide | simp]; omega)) (by rw [show ((79 : Int32)).toInt = 79 by first | decide | simp]; omega)
    have k1 : (c - (48 : Int32)).toInt = c.toInt - 48 := i_sub rfl (by first | decide | simp) (by omega) (by omega)
    rw [show (c - (48 : Int32)).toInt64 = Int64.ofInt (c.toInt - 48) from Int64.toInt_inj.mp (by rw [i_2l k1, Int64.toInt_ofInt, l_bm (by omega) (by omega)])] at h
    exact c_pu hS hv h
  by_cases g80 : 80 ≤ c.toInt ∧ c.toInt ≤ 111
  · rw [mx_80 g80]
    have h := P_n (P_n (c_o22 (by omega) h) (by rw [show ((80 : Int32)).toInt = 80 by first | decide | simp]; omega)) (by rw [show ((111 : Int32)).toInt = 111 by first | decide | simp]; omega)
    have k1 : (c - (80 : Int32)).toInt = c.toInt - 80 := i_sub rfl (by first | decide | simp) (by omega) (by omega)
    have k3 : (Int64.ofInt (c.toInt - 80)).toInt = c.toInt - 80 := by rw [Int64.toInt_ofInt, l_bm (by omega) (by omega)]
    exact c_hold (H := (2, Int64.ofInt (c.toInt - 80), [])) hS hv (by first | decide | simp) (Int64.toInt_inj.mp (by rw [i_2l k1, k3])) (Or.inr (Or.inr (Or.inl ⟨rfl, rfl, by rw [k3]; omega, by rw [k3]; omega⟩))) (by first | decide | simp) h
  by_cases g112 : 112 ≤ c.toInt ∧ c.toInt ≤ 143
  · rw [mx_112 g112]
    have h := P_n (P_n (c_o49 (by omega) h) (by rw [show ((112 : Int32)).toInt = 112 by first | decide | simp]; omega)) (by rw [show ((143 : Int32)).toInt = 143 by first | decide | simp]; omega)
    have k1 : (c - (112 : Int32)).toInt = c.toInt - 112 := i_sub rfl (by first | decide | simp) (by omega) (by omega)
    rw [c_reg hS hE (by rw [i_2l k1]; omega) (by rw [i_2l k1]; omega), i_2l k1, h12] at h
    exact c_pu hS hv h
  by_cases g3 : c.toInt = 3 ∨ (8 ≤ c.toInt ∧ c.toInt ≤ 17)
  · rw [mx_3 g3]
    have h := c_o84 (by omega) h
    unfold RX9_operate_84 at h
    rw [h12, show ((3 : Int32)).toInt = 3 by first | decide | simp, show ((8 : Int32)).toInt = 8 by first | decide | simp, show ((17 : Int32)).toInt = 17 by first | decide | simp] at h
    rcases h with ⟨-, h⟩ | ⟨q, h⟩
    · exact c_pu hS hv h
    · exact c_pu hS hv (P_n (P_n h (by omega)) (by omega))
  by_cases gs : 18 ≤ c.toInt ∧ c.toInt ≤ 23
  · have h := P_n (P_n (c_o110 (by omega) (by omega) (by omega) h) (by rw [show ((18 : Int32)).toInt = 18 by first | decide | simp]; omega)) (by rw [show ((23 : Int32)).toInt = 23 by first | decide | simp]; omega)
    obtain ⟨v1, n1, sl1, SH1, FI1, FL1, FR1, h, e1, e⟩ := h
    rw [e1, e]
    by_cases g18 : c.toInt = 18
    · rw [wt_1 (by omega)] at hw
      obtain ⟨t, R, hs⟩ := sh_1 hw
      have h := P_p h g18
      rw [c_below (y := t) (k := 0) hS hv (by first | decide | simp) (by rw [hs]; rfl)] at h
      have h := c_pu hS hv h
      rw [hs] at h ⊢
      rw [mx_18 g18]
      exact h
    have h := P_n h g18
    by_cases g19 : c.toInt = 19
    · rw [wt_1 (by omega)] at hw
      obtain ⟨t, R, hs⟩ := sh_1 hw
      obtain ⟨F2, k1, k2, k3, k4, h⟩ := c_pp hS hs hv (P_p h g19)
      rw [hs, mx_19 g19]
      exact ⟨by rw [h.1]; decide, _, _, _, h.2, k1, k2, k3 6 (by first | decide | simp), k3 7 (by first | decide | simp), k3 10 (by first | decide | simp), rfl, rfl⟩
    have h := P_n h g19
    by_cases g20 : c.toInt = 20
    · rw [wt_2 (by omega)] at hw
      obtain ⟨t, y, Q, hs⟩ := sh_2 hw
      have h := P_p h g20
      rw [c_below (y := y) (k := 1) hS hv (by first | decide | simp) (by rw [hs]; rfl)] at h
      have h := c_pu hS hv h
      rw [hs] at h ⊢
      rw [mx_20 g20]
      exact h
    have h := P_n h g20
    by_cases g21 : c.toInt = 21
    · obtain ⟨b0, b1⟩ := h21 g21
      unfold ms_wt at hw
      rw [if_neg (by omega), if_neg (by omega), if_pos g21] at hw
      have h := P_p h g21
      obtain ⟨z, hz⟩ : ∃ z, s.1[x.1.toInt.toNat]? = some z := ⟨_, List.getElem?_eq_getElem (by omega)⟩
      rw [c_below (y := z) (k := x.1.toInt.toNat) hS hv (by rw [h12, l_2i rfl (by omega) (by omega)]; omega) hz] at h
      have h := c_pu hS hv h
      cases hs : s.1 with
      | nil => rw [hs] at hz; cases hz
      | cons t R =>
        rw [hs] at h hz
        rw [mx_21 g21, List.getD_eq_getElem?_getD, hz]
        exact h
    have h := P_n h g21
    have hw2 : ¬ ((s.1.length : Int) < 2) := by
      by_cases g22 : c.toInt = 22
      · rw [wt_2 (by omega)] at hw; exact hw
      · rw [wt_3 (by omega)] at hw; omega
    obtain ⟨t, y, Q, hs⟩ := sh_2 hw2
    obtain ⟨F2, k1, k2, k3, k4, h⟩ := c_pp hS hs hv h
    obtain ⟨F3, m1, m2, m3, m4, h⟩ := c_pp (s := (y :: Q, s.2)) hS rfl k2 h
    have e6 : ∀ k, k ≠ 5 → F3 48 k = FI 48 k := fun k hk => (m3 k hk).trans (k3 k hk)
    have kk := kz_tr k1 m1
    rw [hs] at hln
    simp only [List.length_cons] at hln
    rw [show ((22 : Int32)).toInt = 22 by first | decide | simp] at h
    rcases h with ⟨g22, h⟩ | ⟨g22, h⟩
    · rw [hs, mx_22 g22]
      obtain ⟨w1, n4, sl4, SH4, FI4, FL4, FR4, p1, h⟩ := h
      have p1 := c_push hS m2 p1
      rw [if_neg (show ¬ Q.length = 128 by omega)] at p1
      obtain ⟨-, F4, L4, R4, q1, q2, q3, q4, q5, q6, q7, q8⟩ := p1
      cases q1
      have p2 := c_pu hS q3 h
      rw [cv_ps, if_neg (show ¬ (t :: Q).length = 128 by simp only [List.length_cons]; omega)] at p2
      exact cr_tr (kz_tr kk q2) (q4.trans (e6 6 (by first | decide | simp))) (q5.trans (e6 7 (by first | decide | simp))) (q6.trans (e6 10 (by first | decide | simp))) q7 q8 p2
    · have g23 : c.toInt = 23 := by omega
      rw [wt_3 g23] at hw
      obtain ⟨t', y', r, Q', hs'⟩ := sh_3 hw
      rw [hs] at hs'
      have eq : Q = r :: Q' := (List.cons.inj (List.cons.inj hs').2).2
      subst eq
      simp only [List.length_cons] at hln
      rw [hs, mx_23 g23]
      obtain ⟨F5, u1, u2, u3, u4, h⟩ := c_pp (s := (r :: Q', s.2)) hS rfl m2 h
      obtain ⟨w1, n4, sl4, SH4, FI4, FL4, FR4, p1, h⟩ := h
      have p1 := c_push hS u2 p1
      rw [if_neg (show ¬ Q'.length = 128 by omega)] at p1
      obtain ⟨-, F4, L4, R4, q1, q2, q3, q4, q5, q6, q7, q8⟩ := p1
      cases q1
      obtain ⟨w2, n6, sl6, SH6, FI6, FL6, FR6, p2, h⟩ := h
      have p2 := c_push hS q3 p2
      rw [if_neg (show ¬ (t :: Q').length = 128 by simp only [List.length_cons]; omega)] at p2
      obtain ⟨-, F6, L6, R6, z1, z2, z3, z4, z5, z6, z7, z8⟩ := p2
      cases z1
      have p3 := c_pu hS z3 h
      rw [cv_ps, if_neg (show ¬ (r :: t :: Q').length = 128 by simp only [List.length_cons]; omega)] at p3
      exact cr_tr (kz_tr (kz_tr (kz_tr kk u1) q2) z2) (z4.trans (q4.trans ((u3 6 (by first | decide | simp)).trans (e6 6 (by first | decide | simp))))) (z5.trans (q5.trans ((u3 7 (by first | decide | simp)).trans (e6 7 (by first | decide | simp))))) (z6.trans (q6.trans ((u3 10 (by first | decide | simp)).trans (e6 10 (by first | decide | simp))))) (z7.trans q7) (z8.trans q8) p3
  by_cases gu : 25 ≤ c.toInt ∧ c.toInt ≤ 46
  · have h := c_o128 (by omega) (by omega) (by omega) h
    by_cases g25 : c.toInt = 25
    · rw [wt_1 (by omega)] at hw
      obtain ⟨t, R, hs⟩ := sh_1 hw
      have h := c_una hS hs hv (P_p h (by rw [show ((25 : Int32)).toInt = 25 by first | decide | simp]; exact g25)) (y := if t.toInt < 0 then -t else t) (fun F2 => by unfold fX9_changed; rw [if_pos g25, show ((0 : Int64)).toInt = 0 by first | decide | simp])
      rw [hs, mx_25 g25]
      exact h
    have h := P_n h (by rw [show ((25 : Int32)).toInt = 25 by first | decide | simp]; exact g25)
    by_cases g31 : c.toInt = 31
    · rw [wt_1 (by omega)] at hw
      obtain ⟨t, R, hs⟩ := sh_1 hw
      have h := c_una hS hs hv (P_p h (by rw [show ((31 : Int32)).toInt = 31 by first | decide | simp]; exact g31)) (y := -t) (fun F2 => by unfold fX9_changed; rw [if_neg (by omega), if_pos g31])
      rw [hs, mx_31 g31]
      exact h
    have h := P_n h (by rw [show ((31 : Int32)).toInt = 31 by first | decide | simp]; exact g31)
    by_cases g32 : c.toInt = 32
    · rw [wt_1 (by omega)] at hw
      obtain ⟨t, R, hs⟩ := sh_1 hw
      have h := c_una hS hs hv (P_p h (by rw [show ((32 : Int32)).toInt = 32 by first | decide | simp]; exact g32)) (y := t ^^^ (-1 : Int64)) (fun F2 => by unfold fX9_changed; rw [if_neg (by omega), if_neg (by omega), if_pos g32])
      rw [hs, mx_32 g32]
      exact h
    have h := P_n h (by rw [show ((32 : Int32)).toInt = 32 by first | decide | simp]; exact g32)
    by_cases g35 : c.toInt = 35
    · rw [wt_1 (by omega)] at hw
      obtain ⟨t, R, hs⟩ := sh_1 hw
      have h := c_una hS hs hv (P_p h (by rw [show ((35 : Int32)).toInt = 35 by first | decide | simp]; exact g35)) (y := t + x.1) (fun F2 => by unfold fX9_changed; rw [if_neg (by omega), if_neg (by omega), if_neg (by omega), h12])
      rw [hs, mx_35 g35]
      exact h
    have h := P_n h (by rw [show ((35 : Int32)).toInt = 35 by first | decide | simp]; exact g35)
    have h := P_n (P_n h (by rw [show ((26 : Int32)).toInt = 26 by first | decide | simp]; omega)) (by rw [show ((46 : Int32)).toInt = 46 by first | decide | simp]; omega)
    rw [wt_2 (by omega)] at hw
    obtain ⟨t, y, Q, hs⟩ := sh_2 hw
    obtain ⟨F2, k1, k2, k3, k4, h⟩ := c_pp hS hs hv h
    obtain ⟨F3, m1, m2, m3, m4, h⟩ := c_pp (s := (y :: Q, s.2)) hS rfl k2 h
    have e6 : ∀ k, k ≠ 5 → F3 48 k = FI 48 k := fun k hk => (m3 k hk).trans (k3 k hk)
    have kk := kz_tr k1 m1
    rw [hs] at hln
    simp only [List.length_cons] at hln
    rw [hs, mx_bin (by omega)]
    have fin : ∀ _ : ¬ ((c.toInt = 27 ∨ c.toInt = 29) ∧ t.toInt = 0), P_bi (RX9_push (fX9_joined c y t SH F3 FL FR) n sl SH F3 FL FR) (fun v1 n1 sl1 SH1 FI1 FL1 FR1 => P_ret v1 (n1, sl1, SH1, FI1, FL1, FR1)) v st → cr n sl SH FI FL FR v st (ms_cv s (if (c.toInt = 27 ∨ c.toInt = 29) ∧ t.toInt = 0 then .inl 6 else .inr (ms_wk c.toInt y t :: Q, s.2.1))) := by
      intro hz h
      rw [if_neg hz]
      rw [wj (by omega) hz] at h
      have h := c_pu hS m2 h
      rw [cv_ps, if_neg (show ¬ Q.length = 128 by omega)] at h
      exact cr_tr kk (e6 6 (by first | decide | simp)) (e6 7 (by first | decide | simp)) (e6 10 (by first | decide | simp)) rfl rfl h
    have f202 : c.toInt = 27 ∨ c.toInt = 29 → RX9_operate_202 c a2 a3 t y n sl SH F3 FL FR v st → cr n sl SH FI FL FR v st (ms_cv s (if (c.toInt = 27 ∨ c.toInt = 29) ∧ t.toInt = 0 then .inl 6 else .inr (ms_wk c.toInt y t :: Q, s.2.1))) := by
      intro hc h
      unfold RX9_operate_202 at h
      rw [show ((0 : Int64)).toInt = 0 by first | decide | simp] at h
      rcases h with ⟨h0, e1, e⟩ | ⟨h0, h⟩
      · rw [if_pos ⟨hc, h0⟩]
        exact cr_e (by rw [e1]; decide) (by first | decide | simp) e kk
      · exact fin (fun e => h0 e.2) h
    rw [show ((27 : Int32)).toInt = 27 by first | decide | simp, show ((29 : Int32)).toInt = 29 by first | decide | simp] at h
    rcases h with ⟨q1, h⟩ | ⟨q1, h⟩
    · exact f202 (Or.inl q1) h
    · rcases h with ⟨q2, h⟩ | ⟨q2, h⟩
      · exact f202 (Or.inr q2) h
      · exact fin (fun e => e.1.elim q1 q2) h
  by_cases g158 : c.toInt = 158
  · have h := P_p (P_n (P_n (c_o227 (by omega) h) (by rw [show ((147 : Int32)).toInt = 147 by first | decide | simp]; omega)) (by rw [show ((157 : Int32)).toInt = 157 by first | decide | simp]; omega)) (by rw [show ((158 : Int32)).toInt = 158 by first | decide | simp]; omega)
    obtain ⟨v1, n1, sl1, SH1, FI1, FL1, FR1, h, e1, e⟩ := h
    have h := P_p h (by rw [show ((158 : Int32)).toInt = 158 by first | decide | simp]; exact g158)
    obtain ⟨v2, n2, sl2, SH2, FI2, FL2, FR2, h, e3, e4⟩ := h
    obtain ⟨w3, n3, sl3, SH3, FI3, FL3, FR3, h, -, e5⟩ := h
    have e6 := h.2
    cases e6
    cases e5
    rw [e4] at e
    obtain ⟨r, D, d1, d2, d3, d4, d5, d6⟩ := h158 g158
    rw [mx_158 g158]
    have hr := rg_of hS
    refine ⟨by rw [e1, e3]; decide, _, _, _, e, kz_r (kz_i (kz_i (kz_i (kz_i (kz_l kz_rf (by first | decide | simp)) (by first | decide | simp)) (by first | decide | simp)) (by first | decide | simp)) (by first | decide | simp)) (by first | decide | simp) (by omega), cv_hd (H := (4, x.1, x.2.2.2)) hv hr (fun r h1 => by rw [h_up_nc h1, h_up_nc h1, h_up_nc h1, h_up_nc h1]) (fun r h1 => h_up_nc h1) (fun r h1 => h_up_nc h1) ⟨⟨?_, ?_, Or.inr (Or.inr (Or.inr (Or.inr ⟨rfl, d4⟩))), fun _ => ⟨r, D, ?_, ?_, bk_fr d3 ?_⟩⟩, by rw [h_up_ne (by first | decide | simp), h_up_ne (by first | decide | simp), h_up_eq], by rw [h_up_ne (by first | decide | simp), h_up_eq]⟩, ?_, ?_, ?_, ?_, ?_⟩
    · rw [h_up_ne (by first | decide | simp), h_up_ne (by first | decide | simp), h_up_ne (by first | decide | simp), h_up_eq]; rfl
    · rw [h_up_eq, h12]
      exact Int64.toInt_inj.mp (i_2l (l_2i (A := x.1.toInt) rfl (by omega) (by omega)))
    · rw [h_up_eq]; exact d1
    · rw [h_up_eq]; exact l_2i d2 (by omega) (by omega)
    · have := hr r d3.1
      rw [h_up_nc (by omega), h_up_nc (by omega), h_up_nc (by omega), h_up_nc (by omega)]
    · rw [h_up_nc (by first | decide | simp), h_up_nc (by first | decide | simp), h_up_nc (by first | decide | simp), h_up_nc (by first | decide | simp)]
    · rw [h_up_nc (by first | decide | simp), h_up_nc (by first | decide | simp), h_up_nc (by first | decide | simp), h_up_nc (by first | decide | simp)]
    · rw [h_up_nc (by first | decide | simp), h_up_nc (by first | decide | simp), h_up_nc (by first | decide | simp), h_up_nc (by first | decide | simp)]
    · rw [h_up_nc (by first | decide | simp)]
    · rw [h_up_nc (by first | decide | simp)]
  by_cases g159 : c.toInt = 159
  · have h := P_p (P_n (P_n (P_n (c_o227 (by omega) h) (by rw [show ((147 : Int32)).toInt = 147 by first | decide | simp]; omega)) (by rw [show ((157 : Int32)).toInt = 157 by first | decide | simp]; omega)) (by rw [show ((158 : Int32)).toInt = 158 by first | decide | simp]; omega)) (by rw [show ((159 : Int32)).toInt = 159 by first | decide | simp]; omega)
    obtain ⟨v1, n1, sl1, SH1, FI1, FL1, FR1, h, e1, e⟩ := h
    have h := P_n h (by rw [show ((158 : Int32)).toInt = 158 by first | decide | simp]; exact g158)
    rw [wt_1 (by omega)] at hw
    obtain ⟨t, R, hs⟩ := sh_1 hw
    obtain ⟨F2, k1, k2, k3, k4, h⟩ := c_pp hS hs hv h
    rw [hs, mx_159 g159, e1, e]
    exact cr_tr k1 (k3 6 (by first | decide | simp)) (k3 7 (by first | decide | simp)) (k3 10 (by first | decide | simp)) rfl rfl (c_hold (H := (3, t, [])) hS k2 (by first | decide | simp) rfl (Or.inr (Or.inr (Or.inr (Or.inl ⟨rfl, rfl⟩)))) (by first | decide | simp) h)
  have h := c_oask (by omega) (by omega) h
  by_cases g6 : c.toInt = 6
  · rw [wt_1 (by omega)] at hw
    obtain ⟨t, R, hs⟩ := sh_1 hw
    have h := c_pb (m := 8) (k := (8 : Int32)) (Z := fun _ => (8 : Int32)) hS hE hs hv (by first | decide | simp) (by first | decide | simp) rfl (P_p h g6)
    rw [hs, mx_6 g6]
    by_cases q : t.toInt < 0 ∨ 4088 < t.toInt
    · rw [if_pos q]; rw [if_pos (by omega)] at h; exact h
    · rw [if_neg q]; rw [if_neg (by omega)] at h; exact h
  have h := P_n h g6
  by_cases g144 : c.toInt = 144
  · rw [mx_144 g144]
    have h := P_p h g144
    rw [h12] at h
    exact c_hold (H := (2, x.1, [])) hS hv (by first | decide | simp) rfl (Or.inr (Or.inr (Or.inl ⟨rfl, rfl, by show 0 ≤ x.1.toInt; omega, by show x.1.toInt ≤ 31; omega⟩))) (by first | decide | simp) h
  have h := P_n (P_n h g144) (by omega)
  by_cases g146 : c.toInt = 146
  · rw [mx_146 g146]
    have h := P_p h g146
    rw [h12, c_reg hS hE (by omega) (by omega), h13 g146] at h
    exact c_pu hS hv h
  have h := P_n h g146
  by_cases g148 : c.toInt = 148
  · rw [wt_1 (by omega)] at hw
    obtain ⟨t, R, hs⟩ := sh_1 hw
    have h := c_pb (m := x.1.toInt.toNat) (k := x.1.toInt32) (Z := fun L => (L 48 12).toInt32) hS hE hs hv (by rw [l_2i rfl (by omega) (by omega)]; omega) (by omega) (by rw [h12]) (P_p h g148)
    rw [hs, mx_148 g148]
    by_cases q : t.toInt < 0 ∨ 4096 - x.1.toInt < t.toInt
    · rw [if_pos q]; rw [if_pos (by omega)] at h; exact h
    · rw [if_neg q]; rw [if_neg (by omega)] at h; exact h
  have h := P_n h g148
  by_cases g151 : c.toInt = 151
  · rw [mx_151 g151]
    have h := P_p h g151
    rcases hE.2.2.2.2.2.2.1 with ⟨q1, q2⟩ | ⟨q1, q2⟩
    · rw [q2]
      have h := P_p h q1
      exact cr_e (by rw [h.1]; decide) (by first | decide | simp) h.2 kz_rf
    · rw [q2]
      exact c_pu hS hv (P_n h q1)
  have h := P_n h g151
  by_cases g155 : c.toInt = 155
  · rw [wt_1 (by omega)] at hw
    obtain ⟨t, R, hs⟩ := sh_1 hw
    have h := P_p h g155
    rw [hs, mx_155 g155]
    rcases hE.2.2.2.2.2.2.2 with ⟨q1, q2⟩ | ⟨q1, q2⟩
    · rw [q2]
      have h := P_p h q1
      exact cr_e (by rw [h.1]; decide) (by first | decide | simp) h.2 kz_rf
    · rw [q2]
      obtain ⟨F2, k1, k2, k3, k4, h⟩ := c_pp hS hs hv (P_n h q1)
      have h := c_pu hS k2 h
      rw [hs] at hln
      simp only [List.length_cons] at hln
      rw [cv_ps, if_neg (show ¬ R.length = 128 by omega)] at h
      exact cr_tr k1 (k3 6 (by first | decide | simp)) (k3 7 (by first | decide | simp)) (k3 10 (by first | decide | simp)) rfl rfl h
  have h := P_n h g155
  by_cases g156 : c.toInt = 156
  · rw [mx_156 g156]
    have h := P_p h g156
    obtain ⟨q1, q2, q3⟩ := hE.2.2.2.2.1
    rw [q1, show ((-1 : Int32)).toInt = -1 by first | decide | simp] at h
    rcases h with ⟨h0, e1, e⟩ | ⟨h0, h⟩
    · rw [if_pos h0]
      exact cr_e (by rw [e1]; decide) (by first | decide | simp) e kz_rf
    · rw [if_neg h0]
      have ev : fX1_cfaValue SH FI FL FR = ms_rg E (ms_cr E).toNat + ms_co E := by
        unfold fX1_cfaValue
        rw [c_reg hS hE (by rw [i_2l q1]; omega) (by rw [i_2l q1]; omega), i_2l q1, hE.2.2.2.2.2.1]
      rw [ev] at h
      exact c_pu hS hv h
  have h := P_n h g156
  have g150 : c.toInt = 150 := by omega
  rw [mx_150 g150]
  exact ⟨by rw [h.1]; decide, _, _, _, h.2, kz_rf, hv, rfl, rfl, rfl, rfl, rfl⟩
end CO
