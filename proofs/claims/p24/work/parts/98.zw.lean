/-! THE CLASS'S CODER: a variable's bytes. -/
/-- a row as it lies in the cells -/
def w_row (F : Nat → Nat → Int32) (L : Nat → Nat → Int64) (R : Nat → Nat → Option Nat) (SH : Nat → Nat × Nat) (x j : Nat) (q : r_Q) : Prop := (L (x + 1) j).toInt = q.1 ∧ 0 ≤ q.1 ∧ (L (x + 2) j).toInt = q.2.1 ∧ 0 ≤ q.2.1 ∧ q.2.2.length ≤ 100000 ∧ ∃ a f, R (x + 3) j = some a ∧ w_lc F L R SH f (some a) q.2.2
/-- what a variable says: its rows, its bytes, whether it is too long -/
def v_bd (F : Nat → Nat → Int32) (L : Nat → Nat → Int64) (R : Nat → Nat → Option Nat) (SH : Nat → Nat × Nat) (x m : Nat) (C : List Int) (b : Bool) : Prop := (m = 0 ∧ (F x 5).toInt = 0 ∧ C.length ≤ 100000 ∧ b = decide (300 < C.length) ∧ ∃ a f, R (x + 3) 0 = some a ∧ w_lc F L R SH f (some a) C) ∨ (∃ Q : List r_Q, m = Q.length ∧ 1 ≤ m ∧ m ≤ 8 ∧ (F x 5).toInt = (m : Int) ∧ C = rw_fl Q ++ (lc_by 0 8 ++ lc_by 0 8) ∧ b = rw_b Q ∧ ∀ j q, Q[j]? = some q → w_row F L R SH x j q)
theorem w_row_ag {F F2 : Nat → Nat → Int32} {L : Nat → Nat → Int64} {R : Nat → Nat → Option Nat} {SH : Nat → Nat × Nat} {x j : Nat} {q : r_Q} (h : ∀ c k, 176 ≤ c → F2 c k = F c k) (hw : w_row F L R SH x j q) : w_row F2 L R SH x j q := by
  obtain ⟨h1, h2, h3, h4, h5, a, f, h6, h7⟩ := hw
  exact ⟨h1, h2, h3, h4, h5, a, f, h6, w_lc_ag h _ _ _ h7⟩
theorem i_and1 {l v : Int32} {p : Prop} [Decidable p] (hl : l = 0 ∨ l = 1) (hv : v = if p then 0 else 1) : (l &&& v) = if p then 0 else l := by
  subst hv
  by_cases hp : p
  · rw [if_pos hp, if_pos hp]
    rcases hl with rfl | rfl <;> decide
  · rw [if_neg hp, if_neg hp]
    rcases hl with rfl | rfl <;> decide
section CC
variable {n sl : Nat} {SH : Nat → Nat × Nat} {FL : Nat → Nat → Int64} {FR : Nat → Nat → Option Nat}
theorem c_rows {x : Nat} (hQ : h_S n SH) (hx : 176 ≤ x) (h2 : FR x 2 = some (x + 1)) (h3 : FR x 3 = some (x + 2)) (h4 : FR x 4 = some (x + 3)) : ∀ (g : Nat) (l2 l3 : Int32) (FI : Nat → Nat → Int32) (v : Option Nat) (s : hS) (B : List Int) (j : Nat) (Q : List r_Q), GX0_code_27 (some x) g l2 l3 n sl SH FI FL FR v s → l3.toInt = j → (FI x 5).toInt = ((j + Q.length : Nat) : Int) → j + Q.length ≤ 8 → (∀ i q, Q[i]? = some q → w_row FI FL FR SH x (j + i) q) → c_vw FI B → (l2 = 0 ∨ l2 = 1) → ∃ F2, c_fr FI F2 ∧ c_vw F2 (B ++ rw_fl Q) ∧ RX0_code_111 (some x) (if rw_b Q = true then 0 else l2) n sl SH F2 FL FR v s := by
  have z8 : ((8 : Int32)).toInt = 8 := by decide
  intro g
  induction g with
  | zero => intro l2 l3 FI v s B j Q h; exact h.elim
  | succ g ih =>
    intro l2 l3 FI v s B j Q h hj hr h8 hw hv hl
    obtain ⟨c1, e1, h⟩ := h
    cases e1
    cases Q with
    | nil =>
      rw [List.length_nil] at hr
      have hX : RX0_code_111 (some x) l2 n sl SH FI FL FR v s := by
        rcases h with ⟨hlt, -⟩ | ⟨-, h⟩
        · exfalso; omega
        · exact h
      exact ⟨FI, fun _ _ _ _ => rfl, by unfold rw_fl; rw [List.map_nil, List.flatten_nil, List.append_nil]; exact hv, hX⟩
    | cons q Q =>
      rw [List.length_cons] at hr h8
      obtain ⟨r1, r2, r3, r4, r5, a, f, r6, r7⟩ := hw 0 q rfl
      have r1 : (FL (x + 1) j).toInt = q.1 := r1
      have r3 : (FL (x + 2) j).toInt = q.2.1 := r3
      have r6 : FR (x + 3) j = some a := r6
      have em : l3.toInt.toNat = j := by omega
      rcases h with ⟨-, h⟩ | ⟨hlt, -⟩
      · rcases h with ⟨-, h⟩ | ⟨hlt, -⟩
        · obtain ⟨c4, e4, c5, e5, -, v5, n5, sl5, SH5, FI5, FL5, FR5, hp5, c7, e7, c8, e8, -, v8, n8, sl8, SH8, FI8, FL8, FR8, hp8, v9, n9, sl9, SH9, FI9, FL9, FR9, hp9, c11, e11, c12, e12, -, v12, n12, sl12, SH12, FI12, FL12, FR12, hp12, v13, n13, sl13, SH13, FI13, FL13, FR13, hp13, hK⟩ := h
          cases e4
          rw [h2] at e5
          cases e5
          rw [em] at hp5
          have q5 := c_num hQ hp5 (by rw [r1]; exact r2) (by decide : ((8 : Int32)).toInt = ((8 : Nat) : Int)) (by decide)
          obtain ⟨F5, e, fr5, av5⟩ := q5
          cases e
          rw [r1] at av5
          cases e7
          rw [h3] at e8
          cases e8
          rw [em] at hp8
          have q8 := c_num hQ hp8 (by rw [r3]; exact r4) (by decide : ((8 : Int32)).toInt = ((8 : Nat) : Int)) (by decide)
          obtain ⟨F8, e, fr8, av8⟩ := q8
          cases e
          rw [r3] at av8
          have q9 := c_num hQ hp9 (by decide) (by decide : ((2 : Int32)).toInt = ((2 : Nat) : Int)) (by decide)
          obtain ⟨F9, e, fr9, av9⟩ := q9
          cases e
          have hv8 := av8 _ (av5 _ hv)
          have hv9 := av9 _ hv8
          have e02 : lc_by ((0 : Int64)).toInt 2 = [0, 0] := by decide
          rw [e02] at hv9
          cases e11
          rw [h4] at e12
          cases e12
          rw [em, r6] at hp12
          have frs := c_fr_t fr5 (c_fr_t fr8 fr9)
          obtain ⟨q12, ev⟩ := c_location hQ hp12 (w_lc_ag (c_fr_n frs) f _ _ r7) hv9 r5
          obtain ⟨F12, e, fr12, av12⟩ := q12
          cases e
          have hv12 := av12 _ hv9
          obtain ⟨F13, e, fr13, av13⟩ := c_patch hQ hp13
          cases e
          have eL : B ++ lc_by q.1 8 ++ lc_by q.2.1 8 ++ [0, 0] ++ q.2.2 = (B ++ lc_by q.1 8 ++ lc_by q.2.1 8) ++ 0 :: 0 :: q.2.2 := by simp
          rw [eL] at hv12
          have e8' : FI8 119 1 = Int32.ofNat (B ++ lc_by q.1 8 ++ lc_by q.2.1 8).length := hv8.1
          have e12' : FI12 119 1 = Int32.ofNat ((B ++ lc_by q.1 8 ++ lc_by q.2.1 8).length + (q.2.2.length + 2)) := by rw [hv12.1, List.length_append, List.length_cons, List.length_cons]
          have hv13 := av13 _ 0 0 _ q.2.2.length hv12 e8' (i_dist e12' e8') (fun hz => by rw [List.length_append, List.length_cons, List.length_cons] at hz; omega)
          have frt := c_fr_t frs (c_fr_t fr12 fr13)
          have eN : B ++ lc_by q.1 8 ++ lc_by q.2.1 8 ++ (lc_by (q.2.2.length : Int) 2 ++ q.2.2) ++ rw_fl Q = B ++ rw_fl (q :: Q) := by rw [rw_fl_c]; simp
          obtain ⟨F14, fr14, hv14, h14⟩ := ih _ _ FI13 v s _ (j + 1) Q hK (by rw [i_add hj (by decide : ((1 : Int32)).toInt = 1) (by omega) (by omega)]; omega) (by rw [frt x 5 (by omega) (by omega), hr]; omega) (by omega) (fun i q' hi => by
            have := hw (i + 1) q' (by rw [List.getElem?_cons_succ]; exact hi)
            rw [show j + (i + 1) = j + 1 + i by omega] at this
            exact w_row_ag (c_fr_n frt) this) hv13 (by
            rw [i_and1 hl ev]
            by_cases hp : 300 < q.2.2.length
            · rw [if_pos hp]; exact Or.inl rfl
            · rw [if_neg hp]; exact hl)
          refine ⟨F14, c_fr_t frt fr14, by rw [← eN]; exact hv14, ?_⟩
          rw [i_and1 hl ev] at h14
          rw [rw_b_c]
          by_cases hp : 300 < q.2.2.length
          · rw [if_pos hp] at h14
            have e : (decide (300 < q.2.2.length) || rw_b Q) = true := by rw [decide_eq_true hp]; rfl
            rw [if_pos e]
            by_cases hb : rw_b Q = true
            · rw [if_pos hb] at h14; exact h14
            · rw [if_neg hb] at h14; exact h14
          · rw [if_neg hp] at h14
            have e : (decide (300 < q.2.2.length) || rw_b Q) = rw_b Q := by rw [decide_eq_false hp]; rfl
            rw [e]
            exact h14
        · exfalso
          rw [z8] at hlt
          omega
      · exfalso; omega
/-- the end: the bytes, or none -/
theorem c_132 {FI : Nat → Nat → Int32} {l2 : Int32} {x : Nat} {C : List Int} {v : Option Nat} {s : hS} (hQ : h_S n SH) (h : RX0_code_132 (some x) l2 n sl SH FI FL FR v s) (hv : c_vw FI C) (hz : C.length ≤ 1000000) : ((l2.toInt = 0 ∨ 600 < C.length) ∧ v = none ∧ s = (n, sl, SH, FI, FL, FR)) ∨ (¬ (l2.toInt = 0 ∨ 600 < C.length) ∧ v = some n ∧ ∃ sl2 SH2 F2 L2 R2, s = (n + 1, sl2, SH2, F2, L2, R2) ∧ (SH2 n).2 = C.length ∧ (∀ i, i < C.length → (F2 n i).toInt = C.getD i 0) ∧ (∀ q, q ≠ n → SH2 q = SH q) ∧ (∀ q, q ≠ n → F2 q = FI q) ∧ (∀ q, q ≠ n → L2 q = FL q) ∧ (∀ q, q ≠ n → R2 q = FR q)) := by
  have h176 := hQ.1
  have es := s120 hQ
  have e6 : (Int32.ofNat (SH 120).2).toInt = 600 := by rw [es]; decide
  have e1 : (FI 119 1).toInt = (C.length : Int) := by rw [hv.1]; exact i_lit (by omega)
  rcases h with ⟨h0, rfl, rfl⟩ | ⟨h0, h⟩
  · exact Or.inl ⟨Or.inl h0, rfl, rfl⟩
  · rcases h with ⟨h6, rfl, rfl⟩ | ⟨h6, h⟩
    · rw [e6, e1] at h6
      exact Or.inl ⟨Or.inr (by omega), rfl, rfl⟩
    · rw [e6, e1] at h6
      obtain ⟨v2, n2, sl2, SH2, FI2, FL2, FR2, hk, rfl, rfl⟩ := h
      obtain ⟨sl3, SH3, F3, L3, R3, rfl, e, k1, k2, k3, k4, k5, k6⟩ := y_copy hk e1 (by rw [es]; show C.length ≤ 600; omega) (by rw [es]; decide) (by omega)
      cases e
      exact Or.inr ⟨by omega, rfl, _, _, _, _, _, rfl, k1, fun i hi => by rw [k2 i hi]; exact hv.2 (by omega) i hi, k3, k4, k5, k6⟩
theorem rw_len {Q : List r_Q} (h : ∀ (j : Nat) (q : r_Q), Q[j]? = some q → q.2.2.length ≤ 100000) (h8 : Q.length ≤ 8) : (rw_fl Q).length ≤ 810000 := by
  have key : ∀ Q : List r_Q, (∀ (j : Nat) (q : r_Q), Q[j]? = some q → q.2.2.length ≤ 100000) → (rw_fl Q).length ≤ 100018 * Q.length := by
    intro Q
    induction Q with
    | nil => intro _; exact Nat.le_refl _
    | cons q Q ih =>
      intro h
      have h1 := h 0 q rfl
      have h2 := ih (fun j q' hj => h (j + 1) q' (by rw [List.getElem?_cons_succ]; exact hj))
      rw [rw_fl_c, List.length_append, List.length_append, List.length_append, List.length_append, lc_by_len, lc_by_len, lc_by_len, List.length_cons]
      omega
  have := key Q h
  omega
theorem c_code {FI : Nat → Nat → Int32} {x m : Nat} {C : List Int} {b : Bool} {v : Option Nat} {s : hS} (hQ : h_S n SH) (hx : 176 ≤ x) (h2 : FR x 2 = some (x + 1)) (h3 : FR x 3 = some (x + 2)) (h4 : FR x 4 = some (x + 3)) (hb : v_bd FI FL FR SH x m C b) (h : RX0_code (some x) n sl SH FI FL FR v s) : ∃ F1, c_fr FI F1 ∧ (((b = true ∨ 600 < C.length) ∧ v = none ∧ s = (n, sl, SH, F1, FL, FR)) ∨ (¬ (b = true ∨ 600 < C.length) ∧ v = some n ∧ ∃ sl2 SH2 F2 L2 R2, s = (n + 1, sl2, SH2, F2, L2, R2) ∧ (SH2 n).2 = C.length ∧ (∀ i, i < C.length → (F2 n i).toInt = C.getD i 0) ∧ (∀ q, q ≠ n → SH2 q = SH q) ∧ (∀ q, q ≠ n → F2 q = F1 q) ∧ (∀ q, q ≠ n → L2 q = FL q) ∧ (∀ q, q ≠ n → R2 q = FR q))) := by
  have fr0 : c_fr FI (h_up FI 119 1 (0 : Int32)) := fun c k g1 _ => by rw [h_up_nc g1]
  have hv0 : c_vw (h_up FI 119 1 (0 : Int32)) [] := ⟨by rw [h_up_eq]; rfl, fun _ i hi => by rw [List.length_nil] at hi; omega⟩
  have e5 : h_up FI 119 1 (0 : Int32) x 5 = FI x 5 := by rw [h_up_nc (by omega)]
  obtain ⟨c2, e2, h⟩ := h
  cases e2
  rcases hb with ⟨hm, r0, hz, hb, a, f, ra, hw⟩ | ⟨Q, hm, m1, m8, r0, hC, hb, hw⟩
  · rcases h with ⟨-, h⟩ | ⟨hn, -⟩
    · obtain ⟨c4, e4, c5, e5', -, v5, n5, sl5, SH5, FI5, FL5, FR5, hp, g, h⟩ := h
      cases e4
      rw [h4] at e5'
      cases e5'
      rw [ra] at hp
      obtain ⟨q5, ev⟩ := c_location hQ hp (w_lc_ag (c_fr_n fr0) f _ _ hw) hv0 hz
      obtain ⟨F5, e, fr5, av5⟩ := q5
      cases e
      have hv5 := av5 _ hv0
      rw [List.nil_append] at hv5
      have l01 : v5 = 0 ∨ v5 = 1 := by
        rw [ev]
        by_cases hp : 300 < C.length
        · rw [if_pos hp]; exact Or.inl rfl
        · rw [if_neg hp]; exact Or.inr rfl
      obtain ⟨F6, fr6, hv6, h6⟩ := c_rows hQ hx h2 h3 h4 g v5 _ FI5 v s C 0 [] h (by decide) (by rw [fr5 x 5 (by omega) (by omega), e5, r0]; rfl) (by decide) (fun i q hi => by simp at hi) hv5 l01
      have ef : rw_fl [] = [] := rfl
      have eb : rw_b [] = false := rfl
      rw [ef, List.append_nil] at hv6
      rw [eb, if_neg (by decide)] at h6
      have frt := c_fr_t fr0 (c_fr_t fr5 fr6)
      obtain ⟨c1, e1, h6⟩ := h6
      cases e1
      rcases h6 with ⟨hp, -⟩ | ⟨-, h6⟩
      · exfalso
        rw [frt x 5 (by omega) (by omega), r0] at hp
        omega
      · have z := c_132 hQ h6 hv6 (by omega)
        have eq : v5.toInt = 0 ↔ b = true := by
          rw [ev, hb, decide_eq_true_eq]
          by_cases hp : 300 < C.length
          · rw [if_pos hp]; exact ⟨fun _ => hp, fun _ => by decide⟩
          · rw [if_neg hp]; exact ⟨fun h => absurd h (by decide), fun h => absurd h hp⟩
        rw [eq] at z
        exact ⟨F6, frt, z⟩
    · exfalso
      rw [e5] at hn
      exact hn r0
  · rcases h with ⟨hn, -⟩ | ⟨-, h⟩
    · exfalso
      rw [e5] at hn
      omega
    · obtain ⟨g, h⟩ := h
      obtain ⟨F6, fr6, hv6, h6⟩ := c_rows hQ hx h2 h3 h4 g _ _ _ v s [] 0 Q h (by decide) (by rw [e5, r0, hm, Nat.zero_add]) (by omega) (fun i q hi => by rw [Nat.zero_add]; exact w_row_ag (c_fr_n fr0) (hw i q hi)) hv0 (Or.inr rfl)
      rw [List.nil_append] at hv6
      have frt := c_fr_t fr0 fr6
      have lq := rw_len (fun j q hj => (hw j q hj).2.2.2.2.1) (by omega)
      obtain ⟨c1, e1, h6⟩ := h6
      cases e1
      rcases h6 with ⟨-, h6⟩ | ⟨hp, -⟩
      · obtain ⟨v2, n2, sl2, SH2, FI2, FL2, FR2, hp2, v3, n3, sl3, SH3, FI3, FL3, FR3, hp3, h6⟩ := h6
        have q2 := c_num hQ hp2 (by decide) (by decide : ((8 : Int32)).toInt = ((8 : Nat) : Int)) (by decide)
        obtain ⟨F2, e, fr2, av2⟩ := q2
        cases e
        have q3 := c_num hQ hp3 (by decide) (by decide : ((8 : Int32)).toInt = ((8 : Nat) : Int)) (by decide)
        obtain ⟨F3, e, fr3, av3⟩ := q3
        cases e
        have z0 : ((0 : Int64)).toInt = 0 := by decide
        have hv3 := av3 _ (av2 _ hv6)
        rw [z0, List.append_assoc, ← hC] at hv3
        have z := c_132 hQ h6 hv3 (by rw [hC, List.length_append, List.length_append, lc_by_len]; omega)
        have eq : (if rw_b Q = true then (0 : Int32) else 1).toInt = 0 ↔ b = true := by
          rw [hb]
          by_cases hp : rw_b Q = true
          · rw [if_pos hp]; exact ⟨fun _ => hp, fun _ => by decide⟩
          · rw [if_neg hp]; exact ⟨fun h => absurd h (by decide), fun h => absurd h hp⟩
        rw [eq] at z
        exact ⟨FI3, c_fr_t frt (c_fr_t fr2 fr3), z⟩
      · exfalso
        rw [frt x 5 (by omega) (by omega), r0] at hp
        omega
end CC
