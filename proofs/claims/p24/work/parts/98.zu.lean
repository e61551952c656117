/-! THE CLASS'S PARSER: the rows of a variable. -/
/-- the rows that a variable x has, in the cells below n -/
def v_in (F : Nat → Nat → Int32) (L : Nat → Nat → Int64) (R : Nat → Nat → Option Nat) (SH : Nat → Nat × Nat) (n x : Nat) (Q : List r_Q) : Prop := ∀ j q, Q[j]? = some q → (L (x + 1) j).toInt = q.1 ∧ 0 ≤ q.1 ∧ (L (x + 2) j).toInt = q.2.1 ∧ 0 ≤ q.2.1 ∧ ∃ a lo hi, x + 5 ≤ lo ∧ hi ≤ n ∧ R (x + 3) j = some a ∧ m_lc F L R SH lo hi a q.2.2
section VI
variable {F F2 : Nat → Nat → Int32} {L L2 : Nat → Nat → Int64} {R R2 : Nat → Nat → Option Nat} {SH S2 : Nat → Nat × Nat} {n n2 x : Nat} {Q : List r_Q}
theorem v_in_fr (h : v_in F L R SH n x Q) (h0 : ∀ q k, x + 5 ≤ q → q < n → F2 q k = F q k) (h1 : ∀ q k, x + 5 ≤ q → q < n → L2 q k = L q k) (h2 : ∀ q k, x + 5 ≤ q → q < n → R2 q k = R q k) (h3 : ∀ q, x + 5 ≤ q → q < n → S2 q = SH q) (h4 : ∀ j, j < Q.length → L2 (x + 1) j = L (x + 1) j ∧ L2 (x + 2) j = L (x + 2) j ∧ R2 (x + 3) j = R (x + 3) j) (hn : n ≤ n2) : v_in F2 L2 R2 S2 n2 x Q := by
  intro j q hj
  have hlt := (List.getElem?_eq_some_iff.mp hj).1
  obtain ⟨y1, y2, y3, y4, a, lo, hi, y5, y6, y7, y8⟩ := h j q hj
  obtain ⟨z1, z2, z3⟩ := h4 j hlt
  exact ⟨by rw [z1]; exact y1, y2, by rw [z2]; exact y3, y4, a, lo, hi, y5, by omega, by rw [z3]; exact y7, m_lc_fr y8 ⟨fun p k g1 g2 => h0 p k (by omega) (by omega), fun p k g1 g2 => h1 p k (by omega) (by omega), fun p k g1 g2 => h2 p k (by omega) (by omega), fun p g1 g2 => h3 p (by omega) (by omega)⟩⟩
theorem v_in_s {w1 w2 : Int} {c : List Int} {a lo hi : Nat} (h : v_in F L R SH n x Q) (e1 : (L (x + 1) Q.length).toInt = w1) (p1 : 0 ≤ w1) (e2 : (L (x + 2) Q.length).toInt = w2) (p2 : 0 ≤ w2) (g1 : x + 5 ≤ lo) (g2 : hi ≤ n) (e3 : R (x + 3) Q.length = some a) (hm : m_lc F L R SH lo hi a c) : v_in F L R SH n x (Q ++ [(w1, w2, c)]) := by
  intro j q hj
  by_cases hlt : j < Q.length
  · rw [List.getElem?_append_left hlt] at hj
    exact h j q hj
  · rw [List.getElem?_append_right (by omega)] at hj
    have e : j = Q.length := by
      have := (List.getElem?_eq_some_iff.mp hj).1
      rw [List.length_singleton] at this
      omega
    subst e
    rw [Nat.sub_self] at hj
    have hj : some (w1, w2, c) = some q := hj
    cases hj
    exact ⟨e1, p1, e2, p2, a, lo, hi, g1, g2, e3, hm⟩
end VI
theorem rw_fl_c {q : r_Q} {Q : List r_Q} : rw_fl (q :: Q) = lc_by q.1 8 ++ (lc_by q.2.1 8 ++ (lc_by (q.2.2.length : Int) 2 ++ (q.2.2 ++ rw_fl Q))) := by
  unfold rw_fl
  rw [List.map_cons, List.flatten_cons, List.append_assoc, List.append_assoc, List.append_assoc]
theorem rw_b_c {q : r_Q} {Q : List r_Q} : rw_b (q :: Q) = (decide (300 < q.2.2.length) || rw_b Q) := by
  unfold rw_b
  rw [List.any_cons]
section SV
variable {K W : Nat → Int} {M : Nat}
theorem s_location_f {n sl : Nat} {SH : Nat → Nat × Nat} {FI : Nat → Nat → Int32} {FL : Nat → Nat → Int64} {FR : Nat → Nat → Option Nat} {v : Option Nat} {s : hS} (hQ : h_S n SH) (hf : s_ft FI) (h : RX4_readLocation n sl SH FI FL FR v s) : ∃ n2 sl2 SH2 F2 L2 R2, v = some n ∧ s = (n2, sl2, SH2, F2, L2, R2) ∧ n < n2 ∧ b_ct n SH FI FL FR n2 SH2 F2 L2 R2 ∧ s_ft F2 := by
  rcases h with ⟨hc, -⟩ | ⟨-, h⟩
  · exfalso
    rw [hf.2] at hc
    revert hc
    decide
  · obtain ⟨v7, n7, sl7, SH7, FI7, FL7, FR7, hp, rfl, rfl⟩ := h
    obtain ⟨sl2, SH2, F2, L2, R2, rfl, e, b, ft⟩ := s_place_f hQ hf hp
    cases e
    exact ⟨_, _, _, _, _, _, rfl, rfl, by omega, b, ft⟩
/-- one row: its range and its location -/
theorem s_row {n sl : Nat} {SH : Nat → Nat × Nat} {FI : Nat → Nat → Int32} {FL : Nat → Nat → Int64} {FR : Nat → Nat → Option Nat} {x m t : Nat} {Q : List r_Q} {a2 : Int32} {u : Unit} {v : Option Nat} {n3 sl3 n6 sl6 : Nat} {SH3 SH6 : Nat → Nat × Nat} {FI3 FI6 : Nat → Nat → Int32} {FL3 FL6 : Nat → Nat → Int64} {FR3 FR6 : Nat → Nat → Option Nat} (hk : RX4_readRange (some x) a2 n sl SH FI FL FR u (n3, sl3, SH3, FI3, FL3, FR3)) (hm : RX4_readLocation n3 sl3 SH3 FI3 FL3 FR3 v (n6, sl6, SH6, FI6, FL6, FR6)) (ha : a2.toInt = m) (hx : 176 ≤ x) (hQ : h_S n SH) (hn : x + 5 ≤ n) (hq : q_tk K W M FI FL) (hv : s_vw M FI FL t 0) (h2 : FR x 2 = some (x + 1)) (h3 : FR x 3 = some (x + 2)) (hi : v_in FI FL FR SH n x Q) (hl : Q.length = m) : v = some n ∧ n < n6 ∧ FR3 = FR ∧ b_ct x SH FI FL FR n6 SH6 FI6 FL6 FR6 ∧ (∀ q k, x ≤ q → q < n → FR6 q k = FR q k) ∧ (∀ k, k ≠ 5 → FI6 x k = FI x k) ∧ ((∃ t1 c, r_ok K W m t ∧ l_lc K W (t + 4) (some (t1, c)) ∧ t < t1 ∧ s_vw M FI6 FL6 t1 0 ∧ v_in FI6 FL6 (h_up FR6 (x + 3) m (some n)) SH6 n6 x (Q ++ [(W t, W (t + 2), c)]) ∧ (FI6 x 5).toInt = ((m + 1 : Nat) : Int)) ∨ (s_ft FI6 ∧ l_rw K W m t none)) := by
  have h176 := hQ.1
  obtain ⟨F3, L3, e, a3, r3⟩ := s_range hx ha h2 h3 hq hv hk
  cases e
  have bx : b_ct x SH FI FL FR n SH FI3 FL3 FR := ⟨by omega, hQ, fun q k g1 g2 => a3.1 q k (by omega) (by omega), fun q k g1 g2 => a3.2 q k g2 (by omega), fun _ _ _ => rfl, fun h => absurd hv.1 h, fun _ _ => rfl⟩
  rcases r3 with ⟨rk, f5, l1, l2, p1, p2, w3⟩ | ⟨rk, ft⟩
  · have q3 := q_b hq bx hx
    obtain ⟨n2, sl2, SH2, F2, L2, R2, rfl, e, nn, b2, po⟩ := s_location hQ q3 w3 hm
    cases e
    refine ⟨rfl, nn, rfl, b_t0 bx (b_lo b2 (by omega)), fun q k g1 g2 => b2.2.2.2.2.1 q k g2, fun k hk5 => by rw [b2.2.2.1 x k (by omega) (by omega)]; exact a3.1 x k (by omega) (by omega), ?_⟩
    rcases po with ⟨t1, c, lev, ht1, w6, ml⟩ | ⟨lev, ft⟩
    · refine Or.inl ⟨t1, c, rk, lev, by omega, w6, ?_, by rw [b2.2.2.1 x 5 (by omega) (by omega)]; exact f5⟩
      have hi2 : v_in FI6 FL6 (h_up FR6 (x + 3) m (some n)) SH6 n6 x Q := v_in_fr hi (fun q k g1 g2 => by rw [b2.2.2.1 q k g2 (by omega)]; exact a3.1 q k (by omega) (by omega)) (fun q k g1 g2 => by rw [b2.2.2.2.1 q k g2 (by omega)]; exact a3.2 q k (by omega) (by omega)) (fun q k g1 g2 => by rw [h_up_nc (by omega)]; exact b2.2.2.2.2.1 q k g2) (fun q g1 g2 => b2.2.2.2.2.2.2 q g2) (fun j hj => ⟨by rw [b2.2.2.2.1 (x + 1) j (by omega) (by omega)]; exact a3.2 (x + 1) j (by omega) (by omega), by rw [b2.2.2.2.1 (x + 2) j (by omega) (by omega)]; exact a3.2 (x + 2) j (by omega) (by omega), by rw [h_up_ne (by omega)]; exact b2.2.2.2.2.1 (x + 3) j (by omega)⟩) (by omega)
      refine v_in_s (a := n) (lo := n) (hi := n6) hi2 ?_ p1 ?_ p2 (by omega) (Nat.le_refl _) ?_ (m_lc_fr ml ⟨fun q k g1 g2 => rfl, fun q k g1 g2 => rfl, fun q k g1 g2 => by rw [h_up_nc (by omega)], fun q g1 g2 => rfl⟩)
      · rw [hl, b2.2.2.2.1 (x + 1) m (by omega) (by omega)]; exact l1
      · rw [hl, b2.2.2.2.1 (x + 2) m (by omega) (by omega)]; exact l2
      · rw [hl, h_up_eq]
    · exact Or.inr ⟨ft, l_rw_n1 rk lev⟩
  · obtain ⟨n2, sl2, SH2, F2, L2, R2, rfl, e, nn, b2, ft2⟩ := s_location_f hQ ft hm
    cases e
    exact ⟨rfl, nn, rfl, b_t0 bx (b_lo b2 (by omega)), fun q k g1 g2 => b2.2.2.2.2.1 q k g2, fun k hk5 => by rw [b2.2.2.1 x k (by omega) (by omega)]; exact a3.1 x k (by omega) (by omega), Or.inr ⟨ft2, l_rw_n rk⟩⟩
/-- rows behind a fault -/
theorem s_rows_f {n sl : Nat} {SH : Nat → Nat × Nat} {FI : Nat → Nat → Int32} {FL : Nat → Nat → Int64} {FR : Nat → Nat → Option Nat} {x g : Nat} {l2 : Int32} {u : Unit} {s : hS} (hf : s_ft FI) (h : GX4_readRows_18 (some x) g l2 n sl SH FI FL FR u s) : s = (n, sl, SH, FI, FL, FR) := by
  cases g with
  | zero => exact h.elim
  | succ g =>
    rcases h with ⟨-, -, rfl⟩ | ⟨-, h⟩
    · rfl
    · rcases h with ⟨h5, -⟩ | ⟨-, -, rfl⟩
      · exfalso
        rw [hf.2] at h5
        revert h5
        decide
      · rfl
theorem s_rows_G {x : Nat} (hx : 176 ≤ x) : ∀ (g : Nat) (l2 : Int32) (n sl : Nat) (SH : Nat → Nat × Nat) (FI : Nat → Nat → Int32) (FL : Nat → Nat → Int64) (FR : Nat → Nat → Option Nat) (u : Unit) (s : hS) (t m : Nat) (Q : List r_Q), GX4_readRows_18 (some x) g l2 n sl SH FI FL FR u s → h_S n SH → x + 5 ≤ n → q_tk K W M FI FL → s_vw M FI FL t 0 → l2.toInt = m → 1 ≤ m → m ≤ 8 → Q.length = m → FR x 2 = some (x + 1) → FR x 3 = some (x + 2) → FR x 4 = some (x + 3) → v_in FI FL FR SH n x Q → (FI x 5).toInt = m → ∃ n2 sl2 SH2 F2 L2 R2, s = (n2, sl2, SH2, F2, L2, R2) ∧ n ≤ n2 ∧ b_ct x SH FI FL FR n2 SH2 F2 L2 R2 ∧ (∀ k, R2 x k = FR x k) ∧ (∀ k, k ≠ 5 → F2 x k = FI x k) ∧ ((∃ t2 Q2, l_rr K W m t (some (t2, m + Q2.length, rw_fl Q2, rw_b Q2)) ∧ t ≤ t2 ∧ s_vw M F2 L2 t2 0 ∧ v_in F2 L2 R2 SH2 n2 x (Q ++ Q2) ∧ (F2 x 5).toInt = ((m + Q2.length : Nat) : Int)) ∨ (l_rr K W m t none ∧ s_ft F2)) := by
  have z8 : ((8 : Int32)).toInt = 8 := by decide
  have z44 : ((44 : Int32)).toInt = 44 := by decide
  intro g
  induction g with
  | zero => intro l2 n sl SH FI FL FR u s t m Q h; exact h.elim
  | succ g ih =>
    intro l2 n sl SH FI FL FR u s t m Q h hQ hn hq hv hl2 hm1 hm8 hl h2 h3 h4 hi hr
    have h176 := hQ.1
    have kd := s_kd hq hv
    rcases h with ⟨h8, -⟩ | ⟨-, h⟩
    · exfalso
      rw [z8] at h8
      omega
    · rcases h with ⟨h44, h⟩ | ⟨h44, -, rfl⟩
      · rw [z44] at h44
        rcases kd with ⟨ht, kd, -, kr, -⟩ | ⟨-, -, kd⟩
        · have ce := ck_e kr
          have hK : K t = 5 ∧ W t = 44 := by omega
          obtain ⟨v2, n2, sl2, SH2, FI2, FL2, FR2, hk, v3, n3, sl3, SH3, FI3, FL3, FR3, hrg, h⟩ := h
          obtain ⟨F2, L2, e, a2, w2⟩ := s_take hk hq hv ht
          cases e
          have q2 := q_a hq a2
          have b2 : b_ct x SH FI FL FR n SH FI2 FL2 FR := b_lo (b_a hQ a2 (fun h => absurd hv.1 h)) (by omega)
          have hi2 : v_in FI2 FL2 FR SH n x Q := v_in_fr hi (fun q k g1 g2 => a2.1 q k (by omega)) (fun q k g1 g2 => a2.2 q k (by omega)) (fun _ _ _ _ => rfl) (fun _ _ _ => rfl) (fun j hj => ⟨a2.2 (x + 1) j (by omega), a2.2 (x + 2) j (by omega), rfl⟩) (Nat.le_refl _)
          rcases h with ⟨hlt, h⟩ | ⟨hlt, h⟩
          · rw [z8] at hlt
            obtain ⟨c6, e6, v6, n6, sl6, SH6, FI6, FL6, FR6, hm, c8, e8, -, h⟩ := h
            cases e6
            obtain ⟨rfl, nn, eR, b6, r6, f6, po⟩ := s_row hrg hm hl2 hx hQ hn q2 w2 h2 h3 hi2 hl
            rw [eR, h4] at e8
            cases e8
            have em : l2.toInt.toNat = m := by omega
            have h : GX4_readRows_18 (some x) g (l2 + (1 : Int32)) n6 sl6 SH6 FI6 FL6 (h_up FR6 (x + 3) l2.toInt.toNat (some n)) u s := h
            rw [em] at h
            have b7 := b_wR (k := m) (x := some n) (b_t0 b2 b6) (by omega : x ≤ x + 3)
            have rx : ∀ k, h_up FR6 (x + 3) m (some n) x k = FR x k := fun k => by rw [h_up_nc (by omega)]; exact r6 x k (Nat.le_refl _) (by omega)
            have fx : ∀ k, k ≠ 5 → FI6 x k = FI x k := fun k hk5 => (f6 k hk5).trans (a2.1 x k (by omega))
            rcases po with ⟨t1, c, rk, lev, ht1, w6, vi, f5⟩ | ⟨ft, lev⟩
            · have q6 := q_b hq b7 hx
              obtain ⟨n9, sl9, SH9, F9, L9, R9, rfl, nn9, b9, r9, f9, res⟩ := ih _ n6 sl6 SH6 FI6 FL6 _ u s t1 (m + 1) _ h b6.2.1 (by omega) q6 w6 (by rw [i_add hl2 (by decide : ((1 : Int32)).toInt = 1) (by omega) (by omega)]; omega) (by omega) (by omega) (by rw [List.length_append, hl]; rfl) (by rw [rx]; exact h2) (by rw [rx]; exact h3) (by rw [rx]; exact h4) vi f5
              refine ⟨_, _, _, _, _, _, rfl, by omega, b_t0 b7 b9, fun k => (r9 k).trans (rx k), fun k hk5 => (f9 k hk5).trans (fx k hk5), ?_⟩
              rcases res with ⟨t2, Q2, p1, p2, p3, p4, p5⟩ | ⟨p1, ft⟩
              · refine Or.inl ⟨t2, (W (t + 1), W (t + 1 + 2), c) :: Q2, l_rr_c hK ?_, by omega, p3, ?_, by rw [p5, List.length_cons]; omega⟩
                · have e := l_rw_ok rk lev p1
                  rw [rw_fl_c, rw_b_c, List.length_cons, show m + (Q2.length + 1) = m + 1 + Q2.length by omega]
                  exact e
                · rw [List.append_assoc] at p4
                  exact p4
              · exact Or.inr ⟨l_rr_c hK (l_rw_n2 rk lev p1), ft⟩
            · have e := s_rows_f ft h
              exact ⟨_, _, _, _, _, _, e, by omega, b7, rx, fx, Or.inr ⟨l_rr_c hK lev, ft⟩⟩
          · rw [z8] at hlt
            obtain ⟨F3, L3, e, a3, r3⟩ := s_range hx hl2 h2 h3 q2 w2 hrg
            cases e
            have bx : b_ct x SH FI2 FL2 FR n SH FI3 FL3 FR := ⟨by omega, hQ, fun q k g1 g2 => a3.1 q k (by omega) (by omega), fun q k g1 g2 => a3.2 q k g2 (by omega), fun _ _ _ => rfl, fun h => absurd w2.1 h, fun _ _ => rfl⟩
            rcases r3 with ⟨rk, -⟩ | ⟨rk, ft⟩
            · exfalso
              have := rk.2.1
              omega
            · have e := s_rows_f ft h
              exact ⟨_, _, _, _, _, _, e, Nat.le_refl _, b_t0 b2 bx, fun _ => rfl, fun k hk5 => (a3.1 x k (by omega) (by omega)).trans (a2.1 x k (by omega)), Or.inr ⟨l_rr_c hK (l_rw_n rk), ft⟩⟩
        · exfalso; omega
      · rw [z44] at h44
        have n44 : ¬ (K t = 5 ∧ W t = 44) := by
          intro h
          rcases kd with ⟨-, kd, -, kr, -⟩ | ⟨-, kK, -⟩
          · have ce := ck_e kr
            omega
          · omega
        refine ⟨_, _, _, _, _, _, rfl, Nat.le_refl _, b_lo (b_rf hQ) (by omega), fun _ => rfl, fun _ _ => rfl, Or.inl ⟨t, [], ?_, Nat.le_refl _, hv, by rw [List.append_nil]; exact hi, hr⟩⟩
        exact l_rr_e n44
/-- the rows of a variable -/
theorem s_rows {n sl : Nat} {SH : Nat → Nat × Nat} {FI : Nat → Nat → Int32} {FL : Nat → Nat → Int64} {FR : Nat → Nat → Option Nat} {x t : Nat} {u : Unit} {s : hS} (h : RX4_readRows (some x) n sl SH FI FL FR u s) (hx : 176 ≤ x) (hQ : h_S n SH) (hn : x + 5 ≤ n) (hq : q_tk K W M FI FL) (hv : s_vw M FI FL t 0) (h2 : FR x 2 = some (x + 1)) (h3 : FR x 3 = some (x + 2)) (h4 : FR x 4 = some (x + 3)) : ∃ n2 sl2 SH2 F2 L2 R2, s = (n2, sl2, SH2, F2, L2, R2) ∧ n ≤ n2 ∧ b_ct x SH FI FL FR n2 SH2 F2 L2 R2 ∧ (∀ k, R2 x k = FR x k) ∧ (∀ k, k ≠ 5 → F2 x k = FI x k) ∧ ((∃ t2 Q, l_rw K W 0 t (some (t2, Q.length, rw_fl Q, rw_b Q)) ∧ 1 ≤ Q.length ∧ t < t2 ∧ s_vw M F2 L2 t2 0 ∧ v_in F2 L2 R2 SH2 n2 x Q ∧ (F2 x 5).toInt = (Q.length : Int)) ∨ (l_rw K W 0 t none ∧ s_ft F2)) := by
  have h176 := hQ.1
  obtain ⟨v3, n3, sl3, SH3, FI3, FL3, FR3, hrg, c6, e6, v6, n6, sl6, SH6, FI6, FL6, FR6, hm, c8, e8, -, h⟩ := h
  cases e6
  obtain ⟨rfl, nn, eR, b6, r6, f6, po⟩ := s_row (m := 0) (Q := []) hrg hm (by decide) hx hQ hn hq hv h2 h3 (fun j q hj => by simp at hj) rfl
  rw [eR, h4] at e8
  cases e8
  have b7 := b_wR (k := 0) (x := some n) b6 (by omega : x ≤ x + 3)
  have rx : ∀ k, h_up FR6 (x + 3) 0 (some n) x k = FR x k := fun k => by rw [h_up_nc (by omega)]; exact r6 x k (Nat.le_refl _) (by omega)
  obtain ⟨gl, h⟩ := h
  rcases po with ⟨t1, c, rk, lev, ht1, w6, vi, f5⟩ | ⟨ft, lev⟩
  · have q6 := q_b hq b7 hx
    obtain ⟨n9, sl9, SH9, F9, L9, R9, rfl, nn9, b9, r9, f9, res⟩ := s_rows_G hx gl _ n6 sl6 SH6 FI6 FL6 _ u s t1 1 _ h b6.2.1 (by omega) q6 w6 (by decide) (by decide) (by decide) rfl (by rw [rx]; exact h2) (by rw [rx]; exact h3) (by rw [rx]; exact h4) vi f5
    refine ⟨_, _, _, _, _, _, rfl, by omega, b_t0 b7 b9, fun k => (r9 k).trans (rx k), fun k hk5 => (f9 k hk5).trans (f6 k hk5), ?_⟩
    rcases res with ⟨t2, Q2, p1, p2, p3, p4, p5⟩ | ⟨p1, ft⟩
    · refine Or.inl ⟨t2, (W t, W (t + 2), c) :: Q2, ?_, by rw [List.length_cons]; omega, by omega, p3, p4, by rw [p5, List.length_cons]; omega⟩
      have e := l_rw_ok rk lev p1
      rw [rw_fl_c, rw_b_c, List.length_cons, show Q2.length + 1 = 0 + 1 + Q2.length by omega]
      exact e
    · exact Or.inr ⟨l_rw_n2 rk lev p1, ft⟩
  · have e := s_rows_f ft h
    exact ⟨_, _, _, _, _, _, e, by omega, b7, rx, fun k hk5 => f6 k hk5, Or.inr ⟨lev, ft⟩⟩
end SV
