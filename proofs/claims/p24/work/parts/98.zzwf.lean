/-! A HOLD is never an ADDRESS. -/
def hz (H : ms_H) : Prop := H.1 ≠ 1 ∧ H.2.2.length ≤ 600
def sz (s : ms_S) : Prop := hz s.2.1 ∧ ∀ p, p ∈ s.2.2 → p.1.2.2.length ≤ 600
theorem ps_h {v : Int64} {S : List Int64} {H : ms_H} {y : List Int64 × ms_H} (hH : hz H) (h : ms_ps v S H = .inr y) : hz y.2 := by
  unfold ms_ps at h
  by_cases h1 : S.length = 128
  · rw [if_pos h1] at h; cases h
  · rw [if_neg h1] at h; cases h; exact hH
theorem mx_h {E : ms_E} {c : Int} {a b : Int64} {bl : List Int32} {S : List Int64} {H : ms_H} {y : List Int64 × ms_H} (hbl : bl.length ≤ 600) (hH : hz H) (h : ms_x E c a b bl S H = .inr y) : hz y.2 := by
  unfold ms_x at h
  by_cases g0 : 48 ≤ c ∧ c ≤ 79
  · rw [if_pos g0] at h
    exact ps_h hH h
  rw [if_neg g0] at h
  by_cases g1 : 80 ≤ c ∧ c ≤ 111
  · rw [if_pos g1] at h
    cases h; exact ⟨by show (2 : Int) ≠ 1; decide, by show ([] : List Int32).length ≤ 600; decide⟩
  rw [if_neg g1] at h
  by_cases g2 : 112 ≤ c ∧ c ≤ 143
  · rw [if_pos g2] at h
    exact ps_h hH h
  rw [if_neg g2] at h
  by_cases g3 : c = 3 ∨ (8 ≤ c ∧ c ≤ 17)
  · rw [if_pos g3] at h
    exact ps_h hH h
  rw [if_neg g3] at h
  by_cases g4 : c = 144
  · rw [if_pos g4] at h
    cases h; exact ⟨by show (2 : Int) ≠ 1; decide, by show ([] : List Int32).length ≤ 600; decide⟩
  rw [if_neg g4] at h
  by_cases g5 : c = 146
  · rw [if_pos g5] at h
    exact ps_h hH h
  rw [if_neg g5] at h
  by_cases g6 : c = 150
  · rw [if_pos g6] at h
    cases h; exact hH
  rw [if_neg g6] at h
  by_cases g7 : c = 151
  · rw [if_pos g7] at h
    cases ho : ms_ob E with
    | none => rw [ho] at h; cases h
    | some v => rw [ho] at h; exact ps_h hH h
  rw [if_neg g7] at h
  by_cases g8 : c = 156
  · rw [if_pos g8] at h
    by_cases hq : ms_cr E = -1
    · rw [if_pos hq] at h; cases h
    · rw [if_neg hq] at h; exact ps_h hH h
  rw [if_neg g8] at h
  by_cases g9 : c = 158
  · rw [if_pos g9] at h
    cases h; exact ⟨by show (4 : Int) ≠ 1; decide, hbl⟩
  rw [if_neg g9] at h
  match S, h with
  | [], h => cases h
  | t :: R, h =>
    (try dsimp only at h)
    by_cases k0 : c = 6
    · rw [if_pos k0] at h
      by_cases hq : t.toInt < 0 ∨ 4088 < t.toInt
      · rw [if_pos hq] at h; cases h
      · rw [if_neg hq] at h; cases h; exact hH
    rw [if_neg k0] at h
    by_cases k1 : c = 148
    · rw [if_pos k1] at h
      by_cases hq : t.toInt < 0 ∨ 4096 - a.toInt < t.toInt
      · rw [if_pos hq] at h; cases h
      · rw [if_neg hq] at h; cases h; exact hH
    rw [if_neg k1] at h
    by_cases k2 : c = 18
    · rw [if_pos k2] at h
      exact ps_h hH h
    rw [if_neg k2] at h
    by_cases k3 : c = 19
    · rw [if_pos k3] at h
      cases h; exact hH
    rw [if_neg k3] at h
    by_cases k4 : c = 21
    · rw [if_pos k4] at h
      exact ps_h hH h
    rw [if_neg k4] at h
    by_cases k5 : c = 25
    · rw [if_pos k5] at h
      cases h; exact hH
    rw [if_neg k5] at h
    by_cases k6 : c = 31
    · rw [if_pos k6] at h
      cases h; exact hH
    rw [if_neg k6] at h
    by_cases k7 : c = 32
    · rw [if_pos k7] at h
      cases h; exact hH
    rw [if_neg k7] at h
    by_cases k8 : c = 35
    · rw [if_pos k8] at h
      cases h; exact hH
    rw [if_neg k8] at h
    by_cases k9 : c = 155
    · rw [if_pos k9] at h
      cases ho : ms_tl E with
      | none => rw [ho] at h; cases h
      | some v => rw [ho] at h; cases h; exact hH
    rw [if_neg k9] at h
    by_cases k10 : c = 159
    · rw [if_pos k10] at h
      cases h; exact ⟨by show (3 : Int) ≠ 1; decide, by show ([] : List Int32).length ≤ 600; decide⟩
    rw [if_neg k10] at h
    match R, h with
    | [], h => cases h
    | s :: Q, h =>
      (try dsimp only at h)
      by_cases m0 : c = 20
      · rw [if_pos m0] at h
        exact ps_h hH h
      rw [if_neg m0] at h
      by_cases m1 : c = 22
      · rw [if_pos m1] at h; cases h; exact hH
      rw [if_neg m1] at h
      by_cases m2 : c = 23
      · rw [if_pos m2] at h
        match Q, h with
        | [], h => cases h
        | r :: Q2, h => cases h; exact hH
      rw [if_neg m2] at h
      by_cases m3 : (c = 27 ∨ c = 29) ∧ t.toInt = 0
      · rw [if_pos m3] at h; cases h
      · rw [if_neg m3] at h; cases h; exact hH
theorem jp_h {bs : List Int32} {p : Nat} {a : Int64} {s : ms_S} {x : Nat × ms_S} (hs : sz s) (h : ms_jp bs p a s = .inr (.inl x)) : sz x.2 := by
  unfold ms_jp at h
  by_cases h1 : (p : Int) + a.toInt < 0 ∨ (bs.length : Int) < p + a.toInt
  · rw [if_pos h1] at h; cases h
  · rw [if_neg h1] at h; cases h; exact hs
theorem o1_b {r : Int ⊕ (Int64 × Nat)} {y : ms_O} (h : ms_o1 r = .inr y) : y.2.2.2 = [] := by
  unfold ms_o1 at h
  match r, h with
  | .inr x, h => cases h; rfl
theorem o2_b {r : Int ⊕ (Int64 × Nat)} {q : Nat → Int ⊕ (Int64 × Nat)} {y : ms_O} (h : ms_o2 r q = .inr y) : y.2.2.2 = [] := by
  unfold ms_o2 at h
  match r, h with
  | .inr x, h =>
    (try dsimp only at h)
    cases hq : q x.2 with
    | inl e => rw [hq] at h; cases h
    | inr z => rw [hq] at h; cases h; rfl
theorem op_b {c : Int} {bs : List Int32} {p : Nat} {y : ms_O} (hl : bs.length ≤ 600) (h : ms_op c bs p = .inr y) : y.2.2.2.length ≤ 600 := by
  unfold ms_op at h
  by_cases h0 : ms_kn c = false
  · rw [if_pos h0] at h; cases h
  rw [if_neg h0] at h
  by_cases h1 : ms_sh c = 24
  · rw [if_pos h1] at h
    generalize ms_lu bs p = r at h
    unfold ms_o3 at h
    match r, h with
    | .inr x, h =>
      (try dsimp only at h)
      by_cases h2 : x.1.toInt < 0 ∨ (bs.length : Int) - x.2 < x.1.toInt
      · rw [if_pos h2] at h; cases h
      · rw [if_neg h2] at h
        cases h
        show ((bs.drop x.2).take x.1.toInt.toNat).length ≤ 600
        rw [List.length_take, List.length_drop]
        omega
  rw [if_neg h1] at h
  have nil : ∀ {z : List Int32}, z = [] → z.length ≤ 600 := fun e => by rw [e]; decide
  by_cases h2 : ms_sh c = 23
  · rw [if_pos h2] at h; exact nil (o2_b h)
  rw [if_neg h2] at h
  by_cases h3 : ms_sh c = 22
  · rw [if_pos h3] at h; exact nil (o2_b h)
  rw [if_neg h3] at h
  by_cases h4 : ms_sh c = 21
  · rw [if_pos h4] at h; exact nil (o1_b h)
  rw [if_neg h4] at h
  by_cases h5 : ms_sh c = 20
  · rw [if_pos h5] at h; exact nil (o1_b h)
  rw [if_neg h5] at h
  by_cases h6 : 10 < ms_sh c
  · rw [if_pos h6] at h; exact nil (o1_b h)
  · rw [if_neg h6] at h; exact nil (o1_b h)
theorem tg_b {s : ms_S} (hs : sz s) : (ms_tg s).2.2.length ≤ 600 := by
  unfold ms_tg
  by_cases h : s.2.1.1 = 0
  · rw [if_pos h]
    cases s.1 with
    | nil => show ([] : List Int32).length ≤ 600; decide
    | cons t R => show ([] : List Int32).length ≤ 600; decide
  · rw [if_neg h]; exact hs.1.2
theorem one_h {E : ms_E} {l o : Nat} {bs : List Int32} {p : Nat} {s : ms_S} {x : Nat × ms_S} (hbs : bs.length ≤ 600) (hs : sz s) (h : ms_one E l o bs p s = .inr (.inl x)) : sz x.2 := by
  unfold ms_one at h
  cases hb : bs[p]? with
  | none => rw [hb] at h; cases h
  | some b =>
    rw [hb] at h
    (try dsimp only at h)
    cases ho : ms_op b.toInt bs (p + 1) with
    | inl e => rw [ho] at h; cases h
    | inr y =>
      rw [ho] at h
      (try dsimp only at h)
      unfold ms_do at h
      by_cases h1 : s.2.1.1 ≠ 0 ∧ ¬ (b.toInt = 147 ∨ b.toInt = 157 ∨ b.toInt = 150 ∨ b.toInt = 47 ∨ b.toInt = 152 ∨ b.toInt = 153)
      · rw [if_pos h1] at h; cases h
      rw [if_neg h1] at h
      by_cases h2 : (b.toInt = 144 ∨ b.toInt = 146) ∧ (y.1.toInt < 0 ∨ 31 < y.1.toInt)
      · rw [if_pos h2] at h; cases h
      rw [if_neg h2] at h
      by_cases h3 : b.toInt = 148 ∧ (y.1.toInt < 1 ∨ 8 < y.1.toInt)
      · rw [if_pos h3] at h; cases h
      rw [if_neg h3] at h
      unfold ms_d2 at h
      by_cases h4 : b.toInt = 147 ∨ b.toInt = 157
      · rw [if_pos h4] at h
        cases hp : ms_pc b.toInt y.1 y.2.1 s with
        | none => rw [hp] at h; cases h
        | some s2 =>
          rw [hp] at h
          cases h
          unfold ms_pc at hp
          by_cases hc9 : s.2.2.length = 16 ∨ y.1.toInt < 0 ∨ (if b.toInt = 157 then 4096 else 512) < y.1.toInt ∨ (b.toInt = 157 ∧ (y.2.1.toInt < 0 ∨ 4096 < y.2.1.toInt)) ∨ 4096 < ms_tb s.2.2 + (if b.toInt = 157 then y.1.toInt else 8 * y.1.toInt)
          · rw [if_pos hc9] at hp; cases hp
          · rw [if_neg hc9] at hp
            cases hp
            refine ⟨⟨by show (0 : Int) ≠ 1; decide, by show ([] : List Int32).length ≤ 600; decide⟩, fun q hq => ?_⟩
            rcases List.mem_cons.mp hq with e | e
            · rw [e]; exact tg_b hs
            · exact hs.2 q e
      rw [if_neg h4] at h
      by_cases h5 : (s.1.length : Int) < ms_wt b.toInt y.1
      · rw [if_pos h5] at h; cases h
      rw [if_neg h5] at h
      unfold ms_d3 at h
      by_cases h6 : b.toInt = 47
      · rw [if_pos h6] at h; exact jp_h hs h
      rw [if_neg h6] at h
      by_cases h7 : b.toInt = 40
      · rw [if_pos h7] at h
        cases hS : s.1 with
        | nil => rw [hS] at h; cases h
        | cons t R =>
          rw [hS] at h
          (try dsimp only at h)
          by_cases h8 : t.toInt = 0
          · rw [if_pos h8] at h; cases h; exact hs
          · rw [if_neg h8] at h; exact jp_h (s := (R, s.2)) hs h
      rw [if_neg h7] at h
      by_cases h9 : b.toInt = 152 ∨ b.toInt = 153
      · rw [if_pos h9] at h
        by_cases ha : 15 < y.1.toInt ∨ o = 8
        · rw [if_pos ha] at h; cases h
        · rw [if_neg ha] at h; cases h
      rw [if_neg h9] at h
      by_cases h10 : b.toInt = 145
      · rw [if_pos h10] at h
        by_cases ha : l = 1 ∨ ms_fr E = -1
        · rw [if_pos ha] at h; cases h
        · rw [if_neg ha] at h; cases h
      rw [if_neg h10] at h
      unfold ms_d4 at h
      cases hx : ms_x E b.toInt y.1 y.2.1 y.2.2.2 s.1 s.2.1 with
      | inl e => rw [hx] at h; cases h
      | inr z =>
        rw [hx] at h
        cases h
        exact ⟨mx_h (op_b hbs ho) hs.1 hx, hs.2⟩
theorem one_c {E : ms_E} {l o : Nat} {bs : List Int32} {p : Nat} {s : ms_S} {x : Nat × Nat} (h : ms_one E l o bs p s = .inr (.inr (.inl x))) : x.1 < 16 := by
  unfold ms_one at h
  cases hb : bs[p]? with
  | none => rw [hb] at h; cases h
  | some b =>
    rw [hb] at h
    (try dsimp only at h)
    cases ho : ms_op b.toInt bs (p + 1) with
    | inl e => rw [ho] at h; cases h
    | inr y =>
      rw [ho] at h
      (try dsimp only at h)
      unfold ms_do at h
      split at h
      · cases h
      split at h
      · cases h
      split at h
      · cases h
      unfold ms_d2 at h
      split at h
      · split at h
        · cases h
        · cases h
      split at h
      · cases h
      unfold ms_d3 at h
      split at h
      · unfold ms_jp at h
        split at h
        · cases h
        · cases h
      split at h
      · split at h
        · cases h
        · split at h
          · cases h
          · unfold ms_jp at h
            split at h
            · cases h
            · cases h
      split at h
      · split at h
        · cases h
        · cases h
          show y.1.toInt.toNat < 16
          omega
      split at h
      · split at h
        · cases h
        · cases h
      unfold ms_d4 at h
      split at h
      · cases h
      · cases h
theorem run_h {E : ms_E} (hex : ∀ k, k < 16 → (ms_ex E k).length ≤ 600) (hfr : ms_fr E ≤ 15) : ∀ (g l o : Nat) (bs : List Int32) (p f : Nat) (s : ms_S) (y : Nat × ms_S), bs.length ≤ 600 → sz s → ms_run E g l o bs p f s = some (.inr y) → sz y.2 := by
  intro g
  induction g with
  | zero => intro l o bs p f s y _ _ h; cases h
  | succ g ih =>
    intro l o bs p f s y hbs hs h
    rw [ms_run] at h
    by_cases h1 : p = bs.length
    · rw [if_pos h1] at h
      cases h
      exact hs
    rw [if_neg h1] at h
    by_cases h2 : f = 0
    · rw [if_pos h2] at h; cases h
    rw [if_neg h2] at h
    cases hq : ms_one E l o bs p s with
    | inl e => rw [hq] at h; cases h
    | inr q =>
      rw [hq] at h
      match q, h, hq with
      | .inl x, h, hq => exact ih _ _ _ _ _ _ _ hbs (one_h hbs hs hq) h
      | .inr (.inl x), h, hq =>
        (try dsimp only at h)
        cases hc : ms_run E g l (o + 1) (ms_ex E x.1) 0 (f - 1) s with
        | none => rw [hc] at h; cases h
        | some w =>
          rw [hc] at h
          match w, h, hc with
          | .inl e, h, _ => cases h
          | .inr z, h, hc => exact ih _ _ _ _ _ _ _ hbs (ih _ _ _ _ _ _ _ (hex _ (one_c hq)) hs hc) h
      | .inr (.inr x), h, hq =>
        (try dsimp only at h)
        cases hc : ms_run E g 1 o (ms_ex E (ms_fr E).toNat) 0 (f - 1) ([], ms_0, []) with
        | none => rw [hc] at h; cases h
        | some w =>
          rw [hc] at h
          match w, h, hc with
          | .inl e, h, _ => cases h
          | .inr z, h, hc =>
            (try dsimp only at h)
            cases hb : ms_bs E z.2 with
            | inl e => rw [hb] at h; cases h
            | inr v =>
              rw [hb] at h
              (try dsimp only at h)
              by_cases h3 : s.1.length = 128
              · rw [if_pos h3] at h; cases h
              · rw [if_neg h3] at h
                exact ih _ _ _ _ _ _ _ hbs (show sz ((v + x.1) :: s.1, s.2) from hs) h
theorem sz_0 : sz ([], ms_0, []) := ⟨⟨by show (0 : Int) ≠ 1; decide, by show ([] : List Int32).length ≤ 600; decide⟩, fun p hp => by cases hp⟩
theorem ms_hz {E : ms_E} (hex : ∀ k, k < 16 → (ms_ex E k).length ≤ 600) (hfr : ms_fr E ≤ 15) {l o : Nat} {bs : List Int32} {p f : Nat} {s : ms_S} {y : Nat × ms_S} (h : ms_R E l o bs p f s (.inr y)) (hbs : bs.length ≤ 600) (hs : sz s) : sz y.2 := by
  obtain ⟨g, h⟩ := h
  exact run_h hex hfr g l o bs p f s y hbs hs h
