/-! FRAME's base, as the reference's means asks for it. -/
def x_en (E : ms_E) (q : Int ⊕ (Nat × ms_S)) : xX := match q with
  | .inl e => .inl e
  | .inr y => ms_bs E y.2
def x_an (v : Int32) (L2 : Nat → Nat → Int64) (x : xX) : Prop := match x with
  | .inl e => v.toInt = e
  | .inr y => v.toInt = 0 ∧ L2 121 39 = y
section RX1
variable {n sl : Nat} {SH : Nat → Nat × Nat} {FI F2 F3 : Nat → Nat → Int32} {FL L2 L3 : Nat → Nat → Int64} {FR : Nat → Nat → Option Nat} {st : hS} {E : ms_E} {v : Int32}
theorem r_exec1 {A f : Nat} {bs : List Int32} {a2 a3 : Int32} (hb : bk FI SH 124 A bs) (hbl : bs.length ≤ 600) (h2 : a2.toInt = A) (h3 : a3.toInt = ((A + bs.length : Nat) : Int)) (hE : rE FI FL SH E) (hf : (FI 121 30).toInt = f) (hf1 : f ≤ 1000) (ho : (FI 121 29).toInt = 0) (h : RX12_exec (1 : Int32) a2 a3 n sl SH FI FL FR v st) : ∃ q, ms_R E 1 0 bs 0 f ([], ms_0, []) q ∧ ∃ F2 L2, st = (n, sl, SH, F2, L2, FR) ∧ xr FI FL F2 L2 ∧ F2 143 = FI 143 ∧ F2 145 = FI 145 ∧ F2 146 = FI 146 ∧ F2 147 = FI 147 ∧ L2 144 = FL 144 ∧ F2 121 46 = FI 121 46 ∧ F2 121 47 = FI 121 47 ∧ x_an v L2 (x_en E q) := by
  have hk := kX12_exec h
  obtain ⟨F9, L9, e9, xr9⟩ := xr_kq hk (by first | decide | (simp; done) | (simp [ms_0]; done))
  have row : ∀ c, k_no mX12_exec c = true → F9 c = FI c := fun c hc => by
    have := kq_cell hk hc
    rw [e9] at this
    exact this
  have r46 : F9 121 46 = FI 121 46 := by
    have := kq_fld (c := 121) (k := 46) hk (by first | decide | (simp; done) | (simp [ms_0]; done))
    rw [e9] at this
    exact this
  have r47 : F9 121 47 = FI 121 47 := by
    have := kq_fld (c := 121) (k := 47) hk (by first | decide | (simp; done) | (simp [ms_0]; done))
    rw [e9] at this
    exact this
  have l144 : L9 144 = FL 144 := by
    have := kq_fl (c := 144) hk (by first | decide | (simp; done) | (simp [ms_0]; done))
    rw [e9] at this
    exact this
  obtain ⟨u0, n0, sl0, SH0, FI0, FL0, FR0, hcl, g, h⟩ := h
  obtain ⟨-, -, -, -, -, -, ec⟩ := hcl
  rw [show ((1 : Int32)).toInt.toNat = 1 by first | decide | (simp; done) | (simp [ms_0]; done)] at ec
  cases ec
  have eC : ∀ c, c ≠ 128 → c ≠ 129 → c ≠ 135 → c ≠ 136 → c ≠ 142 → (h_up (h_up (h_up (h_up (h_up FI 128 1 (0 : Int32)) 129 1 (0 : Int32)) 135 1 (0 : Int32)) 136 1 (0 : Int32)) 142 1 (0 : Int32)) c = FI c := fun c c1 c2 c3 c4 c5 => by rw [h_up_nc c5, h_up_nc c4, h_up_nc c3, h_up_nc c2, h_up_nc c1]
  have z0 : ((0 : Int32)).toInt = 0 := by first | decide | (simp; done) | (simp [ms_0]; done)
  have d0 : ((h_up (h_up (h_up (h_up (h_up FI 128 1 (0 : Int32)) 129 1 (0 : Int32)) 135 1 (0 : Int32)) 136 1 (0 : Int32)) 142 1 (0 : Int32)) 142 1).toInt = 0 := by rw [h_up_eq]; exact z0
  have hv0 : rv (h_up (h_up (h_up (h_up (h_up FI 128 1 (0 : Int32)) 129 1 (0 : Int32)) 135 1 (0 : Int32)) 136 1 (0 : Int32)) 142 1 (0 : Int32)) FL SH 1 ([], ms_0, []) := by
    refine ⟨?_, by first | decide | (simp; done) | (simp [ms_0]; done), trivial, ⟨?_, Or.inl ⟨rfl, rfl⟩, fun e => absurd e (by first | decide | (simp; done) | (simp [ms_0]; done)), fun e => absurd e (by first | decide | (simp; done) | (simp [ms_0]; done))⟩, ?_, by first | decide | (simp; done) | (simp [ms_0]; done), ?_, by first | decide | (simp; done) | (simp [ms_0]; done), by first | decide | (simp; done) | (simp [ms_0]; done), trivial⟩
    · rw [h_up_nc (by first | decide | (simp; done) | (simp [ms_0]; done)), h_up_nc (by first | decide | (simp; done) | (simp [ms_0]; done)), h_up_nc (by first | decide | (simp; done) | (simp [ms_0]; done)), h_up_nc (by first | decide | (simp; done) | (simp [ms_0]; done)), h_up_eq]; exact z0
    · rw [h_up_nc (by first | decide | (simp; done) | (simp [ms_0]; done)), h_up_eq]; exact z0
    · rw [h_up_nc (by first | decide | (simp; done) | (simp [ms_0]; done)), h_up_nc (by first | decide | (simp; done) | (simp [ms_0]; done)), h_up_nc (by first | decide | (simp; done) | (simp [ms_0]; done)), h_up_eq]; exact z0
    · rw [h_up_nc (by first | decide | (simp; done) | (simp [ms_0]; done)), h_up_nc (by first | decide | (simp; done) | (simp [ms_0]; done)), h_up_eq]; exact z0
  generalize h_up (h_up (h_up (h_up (h_up FI 128 1 (0 : Int32)) 129 1 (0 : Int32)) 135 1 (0 : Int32)) 136 1 (0 : Int32)) 142 1 (0 : Int32) = FC at h eC d0 hv0
  have e121 : FC 121 = FI 121 := eC 121 (by first | decide | (simp; done) | (simp [ms_0]; done)) (by first | decide | (simp; done) | (simp [ms_0]; done)) (by first | decide | (simp; done) | (simp [ms_0]; done)) (by first | decide | (simp; done) | (simp [ms_0]; done)) (by first | decide | (simp; done) | (simp [ms_0]; done))
  have hEC : rE FC FL SH E := rE_fr hE (eC 123 (by first | decide | (simp; done) | (simp [ms_0]; done)) (by first | decide | (simp; done) | (simp [ms_0]; done)) (by first | decide | (simp; done) | (simp [ms_0]; done)) (by first | decide | (simp; done) | (simp [ms_0]; done)) (by first | decide | (simp; done) | (simp [ms_0]; done))) (eC 124 (by first | decide | (simp; done) | (simp [ms_0]; done)) (by first | decide | (simp; done) | (simp [ms_0]; done)) (by first | decide | (simp; done) | (simp [ms_0]; done)) (by first | decide | (simp; done) | (simp [ms_0]; done)) (by first | decide | (simp; done) | (simp [ms_0]; done))) (eC 125 (by first | decide | (simp; done) | (simp [ms_0]; done)) (by first | decide | (simp; done) | (simp [ms_0]; done)) (by first | decide | (simp; done) | (simp [ms_0]; done)) (by first | decide | (simp; done) | (simp [ms_0]; done)) (by first | decide | (simp; done) | (simp [ms_0]; done))) (fun k _ => by rw [e121]) (fun _ _ => rfl) rfl
  obtain ⟨q, hq, hrc⟩ := rl_run (a1 := (1 : Int32)) (a2 := a2) (a3 := a3) g 1 0 f A 0 bs ([], ms_0, []) 1 a2 a2 a3 FC FL (by first | decide | (simp; done) | (simp [ms_0]; done)) (by first | decide | (simp; done) | (simp [ms_0]; done)) (fun e => absurd e (by first | decide | (simp; done) | (simp [ms_0]; done))) (by rw [e121]; exact ho) (by first | decide | (simp; done) | (simp [ms_0]; done)) (bk_fr hb (eC 124 (by first | decide | (simp; done) | (simp [ms_0]; done)) (by first | decide | (simp; done) | (simp [ms_0]; done)) (by first | decide | (simp; done) | (simp [ms_0]; done)) (by first | decide | (simp; done) | (simp [ms_0]; done)) (by first | decide | (simp; done) | (simp [ms_0]; done)))) (by omega) (by rw [h2]; omega) (by omega) h2 h3 hEC hv0 (by rw [e121]; exact hf) hf1 (by omega) (by omega) h
  refine ⟨q, hq, F9, L9, e9, xr9, row 143 (by first | decide | (simp; done) | (simp [ms_0]; done)), row 145 (by first | decide | (simp; done) | (simp [ms_0]; done)), row 146 (by first | decide | (simp; done) | (simp [ms_0]; done)), row 147 (by first | decide | (simp; done) | (simp [ms_0]; done)), l144, r46, r47, ?_⟩
  match q, hq, hrc with
  | .inl e, _, hrc => exact hrc
  | .inr y, _, ⟨g2, F2, L2, hg2, k3, hv3, gf3, e3, e3b⟩ =>
    cases g2 with
    | zero => exact k3.elim
    | succ g3 =>
      obtain ⟨-, k3⟩ := P_p k3 (rfl : a3.toInt = a3.toInt)
      rw [show ((1 : Int32)).toInt.toNat = 1 by first | decide | (simp; done) | (simp [ms_0]; done)] at k3
      have d3 : (F2 142 1).toInt = 0 := by rw [gf3.2.2.2.2.1 1 (Nat.le_refl _)]; exact d0
      have k3 := P_n k3 (by omega)
      obtain ⟨-, k3⟩ := P_p k3 (rfl : a3.toInt = a3.toInt)
      rw [show ((1 : Int32)).toInt.toNat = 1 by first | decide | (simp; done) | (simp [ms_0]; done)] at k3
      have hE3 : rE F2 L2 SH E := rE_gf hEC gf3
      obtain ⟨w1, w2, w3, w4, w5, w6, w7, w8, w9, w10⟩ := id hv3
      have good : (y.2.2.2 ≠ [] → y.2.2.1.1 = 0 ∧ y.2.1 = []) → RX12_exec_175 (GX12_exec_18 (1 : Int32) a2 a3 g3) (1 : Int32) a2 a3 1 n sl SH F2 L2 FR v st → x_an v L9 (ms_bs E y.2) := by
        intro hpp k4
        have k4 := P_n k4 (by first | decide | (simp; done) | (simp [ms_0]; done))
        obtain ⟨b1, n1, sl1, SH1, FI1, FL1, FR1, hbase, k4⟩ := k4
        rcases r_base hE3 hv3 hbase hpp with ⟨e, e1, e2, e4⟩ | ⟨z, e1, e2, e4⟩
        · have k4 := P_p k4 (by rw [e4]; (first | decide | (simp; done) | (simp [ms_0]; done)))
          rw [e1]
          show v.toInt = e
          rw [fl k4, e2]; (first | decide | (simp; done) | (simp [ms_0]; done))
        · cases e4
          have k4 := P_n k4 (by rw [e2]; (first | decide | (simp; done) | (simp [ms_0]; done)))
          have k4 := P_p k4 (by first | decide | (simp; done) | (simp [ms_0]; done))
          rw [k4.2] at e9
          cases e9
          rw [e1]
          exact ⟨by rw [k4.1]; (first | decide | (simp; done) | (simp [ms_0]; done)), h_up_eq⟩
      have bad : y.2.2.2 ≠ [] → (y.2.2.1.1 ≠ 0 ∨ y.2.1 ≠ []) → RX12_exec_153 (1 : Int32) a2 a3 1 n sl SH F2 L2 FR v st → x_an v L9 (ms_bs E y.2) := by
        intro q1 q2 k4
        have k4 := P_n k4 (by first | decide | (simp; done) | (simp [ms_0]; done))
        unfold ms_bs
        rw [if_pos q1, if_pos q2]
        show v.toInt = 13
        rw [fl k4]; (first | decide | (simp; done) | (simp [ms_0]; done))
      have nn : 0 < (F2 129 1).toInt → y.2.2.2 ≠ [] := fun hlt e => by
        rw [w5, e] at hlt
        exact absurd hlt (by first | decide | (simp; done) | (simp [ms_0]; done))
      show x_an v L9 (ms_bs E y.2)
      rcases k3 with ⟨hlt, -, k3⟩ | ⟨hlt, k3⟩
      · rw [w4.1] at k3
        rcases k3 with ⟨hh, -, k3⟩ | ⟨hh, k3⟩
        · rw [w1] at k3
          rcases k3 with ⟨hs, k3⟩ | ⟨hs, k3⟩
          · exact bad (nn hlt) (Or.inr (fun e => by rw [e] at hs; exact absurd hs (by first | decide | (simp; done) | (simp [ms_0]; done)))) k3
          · refine good (fun _ => ⟨hh, ?_⟩) k3
            cases hy : y.2.1 with
            | nil => rfl
            | cons a r => rw [hy] at hs; simp only [List.length_cons] at hs; exfalso; omega
        · exact bad (nn hlt) (Or.inl hh) k3
      · refine good (fun e => ?_) k3
        exfalso
        cases hy : y.2.2.2 with
        | nil => exact e hy
        | cons a r => rw [w5, hy] at hlt; simp only [List.length_cons] at hlt; omega
/-- what means leaves alone -/
def mk (FI : Nat → Nat → Int32) (FL : Nat → Nat → Int64) (F2 : Nat → Nat → Int32) (L2 : Nat → Nat → Int64) : Prop := (∀ c, (c < 121 ∨ (121 < c ∧ c < 127) ∨ (142 < c ∧ c < 165) ∨ (166 < c ∧ c < 173) ∨ 175 < c) → F2 c = FI c ∧ L2 c = FL c) ∧ (∀ k, (k < 29 ∨ (44 < k ∧ k < 90) ∨ (93 < k ∧ k < 101) ∨ (101 < k ∧ k < 104) ∨ 104 < k) → F2 121 k = FI 121 k ∧ L2 121 k = FL 121 k)
theorem mk_rf : mk FI FL FI FL := ⟨fun _ _ => ⟨rfl, rfl⟩, fun _ _ => ⟨rfl, rfl⟩⟩
theorem mk_tr (h : mk FI FL F2 L2) (g : mk F2 L2 F3 L3) : mk FI FL F3 L3 := ⟨fun c hc => ⟨(g.1 c hc).1.trans (h.1 c hc).1, (g.1 c hc).2.trans (h.1 c hc).2⟩, fun k hk => ⟨(g.2 k hk).1.trans (h.2 k hk).1, (g.2 k hk).2.trans (h.2 k hk).2⟩⟩
/-- a write to a field of the reference -/
theorem mk_f {k : Nat} {x : Int32} (h : mk FI FL F2 L2) (hk : k = 90 ∨ k = 91 ∨ k = 92 ∨ k = 93 ∨ k = 101 ∨ k = 104 ∨ (29 ≤ k ∧ k ≤ 44)) : mk FI FL (h_up F2 121 k x) L2 := ⟨fun c hc => ⟨by rw [h_up_nc (by omega)]; exact (h.1 c hc).1, (h.1 c hc).2⟩, fun j hj => ⟨by rw [h_up_x (by omega)]; exact (h.2 j hj).1, (h.2 j hj).2⟩⟩
/-- a write to a row -/
theorem mk_i {c k : Nat} {x : Int32} (h : mk FI FL F2 L2) (hc : c = 165 ∨ c = 166 ∨ c = 174 ∨ c = 175) : mk FI FL (h_up F2 c k x) L2 := ⟨fun d hd => ⟨by rw [h_up_nc (by omega)]; exact (h.1 d hd).1, (h.1 d hd).2⟩, fun j hj => ⟨by rw [h_up_x (by omega)]; exact (h.2 j hj).1, (h.2 j hj).2⟩⟩
theorem mk_l {k : Nat} {x : Int64} (h : mk FI FL F2 L2) : mk FI FL F2 (h_up L2 173 k x) := ⟨fun d hd => ⟨(h.1 d hd).1, by rw [h_up_nc (by omega)]; exact (h.1 d hd).2⟩, fun j hj => ⟨(h.2 j hj).1, by rw [h_up_x (by omega)]; exact (h.2 j hj).2⟩⟩
theorem rE_mk (h : rE FI FL SH E) (g : mk FI FL F2 L2) : rE F2 L2 SH E := rE_fr h (g.1 123 (by omega)).1 (g.1 124 (by omega)).1 (g.1 125 (by omega)).1 (fun k hk => (g.2 k (Or.inl hk)).1) (fun k hk => (g.2 k (Or.inl hk)).2) (g.1 122 (by omega)).2
/-- a run without a result -/
theorem mk_xr (h : xr FI FL F2 L2) (e1 : F2 143 = FI 143) (e2 : F2 145 = FI 145) (e3 : F2 146 = FI 146) (e4 : F2 147 = FI 147) (hc : ∀ c, (c = 143 ∨ c = 144 ∨ c = 145 ∨ c = 146 ∨ c = 147) → F2 c = FI c ∧ L2 c = FL c) (hk : ∀ k, 44 < k → k ≤ 57 → F2 121 k = FI 121 k ∧ L2 121 k = FL 121 k) : mk FI FL F2 L2 := ⟨fun c h1 => by
  by_cases h2 : c = 143 ∨ c = 144 ∨ c = 145 ∨ c = 146 ∨ c = 147
  · exact hc c h2
  · exact h.1 c (by omega), fun k h1 => by
  by_cases h2 : 44 < k ∧ k ≤ 57
  · exact hk k h2.1 h2.2
  · exact h.2 k (by omega)⟩
end RX1
