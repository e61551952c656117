/-! THE REFERENCE'S RUNS, to their ends. -/
/-- what runs leave alone -/
def xr (FI : Nat → Nat → Int32) (FL : Nat → Nat → Int64) (F2 : Nat → Nat → Int32) (L2 : Nat → Nat → Int64) : Prop := (∀ c, (c < 121 ∨ (121 < c ∧ c < 127) ∨ 147 < c) → F2 c = FI c ∧ L2 c = FL c) ∧ (∀ k, (k < 29 ∨ 57 < k) → F2 121 k = FI 121 k ∧ L2 121 k = FL 121 k)
section RH
variable {n sl : Nat} {SH : Nat → Nat × Nat} {FI F2 F3 : Nat → Nat → Int32} {FL L2 L3 : Nat → Nat → Int64} {FR : Nat → Nat → Option Nat} {st : hS} {E : ms_E} {v : Int32}
theorem xr_tr (h : xr FI FL F2 L2) (g : xr F2 L2 F3 L3) : xr FI FL F3 L3 := ⟨fun c hc => ⟨(g.1 c hc).1.trans (h.1 c hc).1, (g.1 c hc).2.trans (h.1 c hc).2⟩, fun k hk => ⟨(g.2 k hk).1.trans (h.2 k hk).1, (g.2 k hk).2.trans (h.2 k hk).2⟩⟩
theorem k_out {L : List (Nat × Nat)} {A : List Nat} {c k : Nat} (h1 : L.all (fun e => decide (e.1 = 121 ∧ 29 ≤ e.2 ∧ e.2 ≤ 57)) = true) (h2 : A.all (fun a => decide (127 ≤ a ∧ a ≤ 147)) = true) (h : (c < 121 ∨ (121 < c ∧ c < 127) ∨ 147 < c) ∨ (c = 121 ∧ (k < 29 ∨ 57 < k))) : k_in L A c k = false := by
  cases hq : k_in L A c k with
  | false => rfl
  | true =>
    exfalso
    unfold k_in at hq
    rw [Bool.or_eq_true] at hq
    rcases hq with q | q
    · have q := List.contains_iff_mem.mp q
      have := of_decide_eq_true (List.all_eq_true.mp h1 (c, k) q)
      (try dsimp only at this)
      omega
    · have q := List.contains_iff_mem.mp q
      have := of_decide_eq_true (List.all_eq_true.mp h2 c q)
      omega
/-- out of the printed frames -/
theorem xr_kq {m : k_M} (h : kq m (n, sl, SH, FI, FL, FR) st) (m1 : (m.1.all (fun e => decide (e.1 = 121 ∧ 29 ≤ e.2 ∧ e.2 ≤ 57)) && m.2.1.all (fun a => decide (127 ≤ a ∧ a ≤ 147)) && m.2.2.1.all (fun e => decide (e.1 = 121 ∧ 29 ≤ e.2 ∧ e.2 ≤ 57)) && m.2.2.2.all (fun a => decide (127 ≤ a ∧ a ≤ 147))) = true) : ∃ F2 L2, st = (n, sl, SH, F2, L2, FR) ∧ xr FI FL F2 L2 := by
  obtain ⟨n2, sl2, S2, F2, L2, R2⟩ := st
  obtain ⟨h1, h2, h3, h4, h5, h6, -⟩ := h
  (try dsimp only at h1 h2 h3 h4 h5 h6)
  subst h1; subst h2; subst h3; subst h4
  rw [Bool.and_eq_true, Bool.and_eq_true, Bool.and_eq_true] at m1
  obtain ⟨⟨⟨a1, a2⟩, a3⟩, a4⟩ := m1
  exact ⟨F2, L2, rfl, fun c hc => ⟨funext fun k => h5 c k (k_out a1 a2 (Or.inl hc)), funext fun k => h6 c k (k_out a3 a4 (Or.inl hc))⟩, fun k hk => ⟨h5 121 k (k_out a1 a2 (Or.inr ⟨rfl, hk⟩)), h6 121 k (k_out a3 a4 (Or.inr ⟨rfl, hk⟩))⟩⟩
theorem r_tells {a1 a2 : Int32} (h : RX12_tells a1 a2 n sl SH FI FL FR v st) : v = a1 ∧ ∃ F2, st = (n, sl, SH, F2, FL, FR) ∧ fk [53, 54, 55, 56, 57] FI F2 := by
  rcases h with ⟨-, e1, e⟩ | ⟨-, e1, e⟩
  · exact ⟨e1, _, e, fk_up (fk_up (fk_up (fk_up (fk_up fk_rf (by decide)) (by decide)) (by decide)) (by decide)) (by decide)⟩
  · exact ⟨e1, _, e, fk_up (fk_up (fk_up (fk_up (fk_up fk_rf (by decide)) (by decide)) (by decide)) (by decide)) (by decide)⟩
theorem rr_fr {Q : ms_Q} (h : rr FI FL Q) (e1 : ∀ c, c = 143 ∨ c = 145 ∨ c = 146 ∨ c = 147 → F2 c = FI c) (e2 : L2 144 = FL 144) (e3 : F2 121 46 = FI 121 46) (e4 : F2 121 47 = FI 121 47) : rr F2 L2 Q := by
  obtain ⟨h1, h2, h3, h4, h5⟩ := h
  refine ⟨by rw [e3]; exact h1, by rw [e4]; exact h2, h3, h4, lv_mono (fun i p _ _ hp => ?_) h5⟩
  unfold rp
  rw [e1 143 (by omega), e1 145 (by omega), e1 146 (by omega), e1 147 (by omega), e2]
  exact hp
/-- exec, from its beginning -/
theorem r_exec {A f : Nat} {bs : List Int32} {a2 a3 : Int32} (hb : bk FI SH 124 A bs) (hbl : bs.length ≤ 600) (h2 : a2.toInt = A) (h3 : a3.toInt = ((A + bs.length : Nat) : Int)) (hE : rE FI FL SH E) (hf : (FI 121 30).toInt = f) (hf1 : f ≤ 1000) (ho : (FI 121 29).toInt = 0) (h : RX12_exec (0 : Int32) a2 a3 n sl SH FI FL FR v st) : ∃ q, ms_R E 0 0 bs 0 f ([], ms_0, []) q ∧ ∃ F2 L2, st = (n, sl, SH, F2, L2, FR) ∧ xr FI FL F2 L2 ∧ F2 143 = FI 143 ∧ F2 145 = FI 145 ∧ F2 146 = FI 146 ∧ F2 147 = FI 147 ∧ L2 144 = FL 144 ∧ F2 121 46 = FI 121 46 ∧ F2 121 47 = FI 121 47 ∧ match q with
    | .inl e => v.toInt = e
    | .inr y => (y.2.2.2 ≠ [] ∧ (y.2.2.1.1 ≠ 0 ∨ y.2.1 ≠ []) ∧ v.toInt = 13) ∨ (¬ (y.2.2.2 ≠ [] ∧ (y.2.2.1.1 ≠ 0 ∨ y.2.1 ≠ [])) ∧ v.toInt = 0 ∧ rv F2 L2 SH 0 y.2) := by
  have hk := kX12_exec h
  obtain ⟨F9, L9, e9, xr9⟩ := xr_kq hk (by decide)
  have row : ∀ c, k_no mX12_exec c = true → F9 c = FI c := fun c hc => by
    have := kq_cell hk hc
    rw [e9] at this
    exact this
  have r46 : F9 121 46 = FI 121 46 := by
    have := kq_fld (c := 121) (k := 46) hk (by decide)
    rw [e9] at this
    exact this
  have r47 : F9 121 47 = FI 121 47 := by
    have := kq_fld (c := 121) (k := 47) hk (by decide)
    rw [e9] at this
    exact this
  have l144 : L9 144 = FL 144 := by
    have := kq_fl (c := 144) hk (by decide)
    rw [e9] at this
    exact this
  obtain ⟨u0, n0, sl0, SH0, FI0, FL0, FR0, hcl, g, h⟩ := h
  obtain ⟨-, -, -, -, -, -, ec⟩ := hcl
  rw [show ((0 : Int32)).toInt.toNat = 0 by decide] at ec
  cases ec
  have eC : ∀ c, c ≠ 128 → c ≠ 129 → c ≠ 135 → c ≠ 136 → c ≠ 142 → (h_up (h_up (h_up (h_up (h_up FI 128 0 (0 : Int32)) 129 0 (0 : Int32)) 135 0 (0 : Int32)) 136 0 (0 : Int32)) 142 0 (0 : Int32)) c = FI c := fun c c1 c2 c3 c4 c5 => by rw [h_up_nc c5, h_up_nc c4, h_up_nc c3, h_up_nc c2, h_up_nc c1]
  have z0 : ((0 : Int32)).toInt = 0 := by decide
  have d0 : ((h_up (h_up (h_up (h_up (h_up FI 128 0 (0 : Int32)) 129 0 (0 : Int32)) 135 0 (0 : Int32)) 136 0 (0 : Int32)) 142 0 (0 : Int32)) 142 0).toInt = 0 := by rw [h_up_eq]; exact z0
  have hv0 : rv (h_up (h_up (h_up (h_up (h_up FI 128 0 (0 : Int32)) 129 0 (0 : Int32)) 135 0 (0 : Int32)) 136 0 (0 : Int32)) 142 0 (0 : Int32)) FL SH 0 ([], ms_0, []) := by
    refine ⟨?_, by decide, trivial, ⟨?_, Or.inl ⟨rfl, rfl⟩, fun e => absurd e (by first | decide | simp), fun e => absurd e (by first | decide | simp)⟩, ?_, by decide, ?_, by decide, by decide, trivial⟩
    · rw [h_up_nc (by decide), h_up_nc (by decide), h_up_nc (by decide), h_up_nc (by decide), h_up_eq]; exact z0
    · rw [h_up_nc (by decide), h_up_eq]; exact z0
    · rw [h_up_nc (by decide), h_up_nc (by decide), h_up_nc (by decide), h_up_eq]; exact z0
    · rw [h_up_nc (by decide), h_up_nc (by decide), h_up_eq]; exact z0
  generalize h_up (h_up (h_up (h_up (h_up FI 128 0 (0 : Int32)) 129 0 (0 : Int32)) 135 0 (0 : Int32)) 136 0 (0 : Int32)) 142 0 (0 : Int32) = FC at h eC d0 hv0
  have e121 : FC 121 = FI 121 := eC 121 (by decide) (by decide) (by decide) (by decide) (by decide)
  have hEC : rE FC FL SH E := rE_fr hE (eC 123 (by decide) (by decide) (by decide) (by decide) (by decide)) (eC 124 (by decide) (by decide) (by decide) (by decide) (by decide)) (eC 125 (by decide) (by decide) (by decide) (by decide) (by decide)) (fun k _ => by rw [e121]) (fun _ _ => rfl) rfl
  obtain ⟨q, hq, hrc⟩ := rl_run (a1 := (0 : Int32)) (a2 := a2) (a3 := a3) g 0 0 f A 0 bs ([], ms_0, []) 0 a2 a2 a3 FC FL (by decide) (by decide) (fun _ => by decide) (by rw [e121]; exact ho) (by decide) (bk_fr hb (eC 124 (by decide) (by decide) (by decide) (by decide) (by decide))) (by omega) (by rw [h2]; omega) (by omega) h2 h3 hEC hv0 (by rw [e121]; exact hf) hf1 (by omega) (by omega) h
  refine ⟨q, hq, F9, L9, e9, xr9, row 143 (by decide), row 145 (by decide), row 146 (by decide), row 147 (by decide), l144, r46, r47, ?_⟩
  match q, hq, hrc with
  | .inl e, _, hrc => exact hrc
  | .inr y, _, ⟨g2, F2, L2, hg2, k3, hv3, gf3, e3, e3b⟩ =>
    cases g2 with
    | zero => exact k3.elim
    | succ g3 =>
      obtain ⟨-, k3⟩ := P_p k3 (rfl : a3.toInt = a3.toInt)
      rw [show ((0 : Int32)).toInt.toNat = 0 by decide] at k3
      have d3 : (F2 142 0).toInt = 0 := by rw [gf3.2.2.2.2.1 0 (Nat.le_refl _)]; exact d0
      have k3 := P_n k3 (by omega)
      obtain ⟨-, k3⟩ := P_p k3 (rfl : a3.toInt = a3.toInt)
      rw [show ((0 : Int32)).toInt.toNat = 0 by decide] at k3
      obtain ⟨w1, w2, w3, w4, w5, w6, w7, w8, w9, w10⟩ := id hv3
      have good : ¬ (y.2.2.2 ≠ [] ∧ (y.2.2.1.1 ≠ 0 ∨ y.2.1 ≠ [])) → RX12_exec_175 (GX12_exec_18 (0 : Int32) a2 a3 g3) (0 : Int32) a2 a3 0 n sl SH F2 L2 FR v st → (y.2.2.2 ≠ [] ∧ (y.2.2.1.1 ≠ 0 ∨ y.2.1 ≠ []) ∧ v.toInt = 13) ∨ (¬ (y.2.2.2 ≠ [] ∧ (y.2.2.1.1 ≠ 0 ∨ y.2.1 ≠ [])) ∧ v.toInt = 0 ∧ rv F9 L9 SH 0 y.2) := by
        intro hn k4
        have k4 := P_p k4 (by decide)
        rw [k4.2] at e9
        cases e9
        exact Or.inr ⟨hn, by rw [k4.1]; decide, hv3⟩
      have bad : y.2.2.2 ≠ [] → (y.2.2.1.1 ≠ 0 ∨ y.2.1 ≠ []) → RX12_exec_153 (0 : Int32) a2 a3 0 n sl SH F2 L2 FR v st → (y.2.2.2 ≠ [] ∧ (y.2.2.1.1 ≠ 0 ∨ y.2.1 ≠ []) ∧ v.toInt = 13) ∨ (¬ (y.2.2.2 ≠ [] ∧ (y.2.2.1.1 ≠ 0 ∨ y.2.1 ≠ [])) ∧ v.toInt = 0 ∧ rv F9 L9 SH 0 y.2) := by
        intro q1 q2 k4
        have k4 := P_p k4 (by decide)
        exact Or.inl ⟨q1, q2, by rw [fl k4]; decide⟩
      have nn : 0 < (F2 129 0).toInt → y.2.2.2 ≠ [] := fun hlt e => by
        rw [w5, e] at hlt
        exact absurd hlt (by first | decide | simp)
      rcases k3 with ⟨hlt, -, k3⟩ | ⟨hlt, k3⟩
      · rw [w4.1] at k3
        rcases k3 with ⟨hh, -, k3⟩ | ⟨hh, k3⟩
        · rw [w1] at k3
          rcases k3 with ⟨hs, k3⟩ | ⟨hs, k3⟩
          · exact bad (nn hlt) (Or.inr (fun e => by rw [e] at hs; exact absurd hs (by first | decide | simp))) k3
          · refine good (fun e => ?_) k3
            rcases e.2 with e2 | e2
            · exact e2 hh
            · cases hy : y.2.1 with
              | nil => exact e2 hy
              | cons a r => rw [hy] at hs; simp only [List.length_cons] at hs; omega
        · exact bad (nn hlt) (Or.inl hh) k3
      · refine good (fun e => ?_) k3
        cases hy : y.2.2.2 with
        | nil => exact e.1 hy
        | cons a r => rw [w5, hy] at hlt; simp only [List.length_cons] at hlt; omega
end RH
