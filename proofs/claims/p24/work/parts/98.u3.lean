/-! All levels at once. -/
theorem f_end_c {K W : Nat → Int} {t : Nat} {e : f_E} {S : List f_E} {o : Int} {B : List Int} : f_end K W t (e :: S, o, B) = if K t = 5 ∧ W t = 58 ∧ e.1 = -2 then some (.inl (t + 1, true, (-3, [], e.2.2.1, B.length) :: S, o, B)) else if K t = 5 ∧ W t = 41 ∧ e.1 = -1 then some (.inl (t + 1, false, f_fin S (o - 1) B)) else none := rfl
section LM
variable {K W : Nat → Int} {T : Nat}
theorem lt_T {t : Nat} (hT : K T = 0) (ht : t ≤ T) (hk : K t ≠ 0) : t + 1 ≤ T := by
  rcases Nat.lt_or_ge t T with h | h
  · omega
  · exfalso
    have e : t = T := by omega
    rw [e, hT] at hk
    exact hk rfl
theorem lc_bs_lt {t b : Nat} {x : Int} (h : lc_bs K W t = some (b, x)) : t < b ∧ (K T = 0 → t ≤ T → b ≤ T) ∧ K t ≠ 3 ∧ lc_uy (K t) (W t) = false ∧ ¬ (K t = 5 ∧ W t = 40) ∧ ¬ (K t = 2 ∧ W t = 5) ∧ ¬ (K t = 2 ∧ W t = 6) := by
  unfold lc_bs at h
  split at h
  · rename_i h1
    split at h
    · rename_i h2
      cases h
      refine ⟨by omega, fun hT ht => ?_, by omega, ?_, by omega, by omega, by omega⟩
      · have g1 := lt_T hT ht (by omega)
        have g2 := lt_T hT g1 (by omega)
        omega
      · rw [h1.1, h1.2]; decide
    · cases h
  · split at h
    · rename_i h2
      cases h
      refine ⟨by omega, fun hT ht => lt_T hT ht (by omega), by omega, ?_, by omega, by omega, by omega⟩
      rw [h2.1, h2.2]; decide
    · cases h
theorem lc_ad_lt {b : Nat} (h : lc_ad K W b = true) : (K T = 0 → b ≤ T → b + 2 ≤ T) ∧ au_bn (K (b + 2)) (W (b + 2)) < 7 := by
  have h2 : (K b = 5 ∧ (W b = 43 ∨ W b = 45)) ∧ (K (b + 1) = 3 ∧ au_bn (K (b + 2)) (W (b + 2)) ≠ 7) := by simpa [lc_ad, lc_al] using h
  obtain ⟨⟨h3, -⟩, h4, h5⟩ := h2
  have := au_bn_rg (K (b + 2)) (W (b + 2))
  refine ⟨fun hT hb => ?_, by omega⟩
  have g1 := lt_T hT hb (by omega)
  have g2 := lt_T hT g1 (by omega)
  omega
theorem lc_at_lt {y : Bool} {t t1 : Nat} {c : List Int} (hT : K T = 0) (ht : t ≤ T) (h : lc_at K W y t = some (t1, c)) : t < t1 ∧ t1 ≤ T := by
  unfold lc_at at h
  split at h
  · rename_i h1
    cases h
    have := lt_T hT ht (by omega)
    omega
  · split at h
    · rename_i h1 h2
      cases h
      have := lt_T hT ht (by omega)
      omega
    · split at h
      · rename_i h1 h2 h3
        cases h
        have := lt_T hT ht (by omega)
        omega
      · split at h
        · cases h
        · rename_i b x hb
          have g := lc_bs_lt (T := T) hb
          have g2 := g.2.1 hT ht
          split at h
          · rename_i hy
            cases h
            have hy2 : lc_ad K W b = true := by
              cases y
              · simp at hy
              · simpa using hy
            have := (lc_ad_lt (T := T) hy2).1 hT g2
            omega
          · cases h
            omega
theorem lc_at_f {y : Bool} {t : Nat} (h : lc_cm K W t = false) : lc_at K W y t = lc_at K W false t := by
  unfold lc_cm at h
  unfold lc_at
  split
  · rfl
  · split
    · rfl
    · split
      · rfl
      · split
        · rfl
        · rename_i b x hb
          rw [hb] at h
          dsimp only at h
          simp [h]
theorem lc_cm_at {t : Nat} (h : lc_cm K W t = true) : ∃ b x, lc_bs K W t = some (b, x) ∧ lc_ad K W b = true ∧ lc_at K W true t = some (b + 2, x :: lc_s 9 (lc_sg K W b)) := by
  unfold lc_cm at h
  split at h
  · cases h
  · rename_i b x hb
    have g := lc_bs_lt (T := 0) hb
    refine ⟨b, x, hb, h, ?_⟩
    unfold lc_at
    rw [if_neg g.2.2.1, if_neg g.2.2.2.2.2.1, if_neg g.2.2.2.2.2.2, hb]
    simp [h]
theorem f_turn_eq {B c1 c2 c3 : List Int} : f_turn ((B ++ c1).length + 1) (B ++ c1 ++ [40, 0, 0] ++ c2).length (B ++ c1 ++ [40, 0, 0] ++ c2 ++ c3) = B ++ (c1 ++ lc_ch c2 c3) := by
  have e0 : B ++ c1 ++ [40, 0, 0] ++ c2 ++ c3 = (B ++ c1 ++ [40]) ++ ([0, 0] ++ c2 ++ c3) := by simp
  have e1 : (B ++ c1).length + 1 = (B ++ c1 ++ [40]).length := by simp only [List.length_append, List.length_cons, List.length_nil]
  have e2 : (B ++ c1 ++ [40, 0, 0] ++ c2 ++ c3).take ((B ++ c1).length + 1) = B ++ c1 ++ [40] := by
    rw [e0, e1, List.take_left']
    rfl
  have e3 : (B ++ c1 ++ [40, 0, 0] ++ c2 ++ c3).drop (B ++ c1 ++ [40, 0, 0] ++ c2).length = c3 := by
    rw [List.drop_left']
    rfl
  have e4 : (B ++ c1 ++ [40, 0, 0] ++ c2 ++ c3).drop ((B ++ c1).length + 1 + 2) = c2 ++ c3 := by
    have e : B ++ c1 ++ [40, 0, 0] ++ c2 ++ c3 = (B ++ c1 ++ [40, 0, 0]) ++ (c2 ++ c3) := by simp
    rw [e, show (B ++ c1).length + 1 + 2 = (B ++ c1 ++ [40, 0, 0]).length by (simp only [List.length_append, List.length_cons, List.length_nil]), List.drop_left']
    rfl
  have e5 : (B ++ c1 ++ [40, 0, 0] ++ c2).length - ((B ++ c1).length + 1) - 2 = c2.length := by
    simp only [List.length_append, List.length_cons, List.length_nil]
    omega
  have e6 : (B ++ c1 ++ [40, 0, 0] ++ c2 ++ c3).length - (B ++ c1 ++ [40, 0, 0] ++ c2).length = c3.length := by
    simp only [List.length_append, List.length_cons, List.length_nil]
    omega
  unfold f_turn
  rw [e2, e3, e4, e5, e6, List.take_left' rfl]
  unfold lc_ch
  simp
theorem lv_main (hT : K T = 0) : ∀ f : Nat,
    (∀ (o : Int) (t : Nat) (S : List f_E) (B : List Int), t ≤ T → 12 * (T - t) + 1 < f → (6 ≤ f_top S ∨ lc_cm K W t = false) → lv_8 K W T o t S B (lc_ps K W f 8 o t)) ∧
    (∀ l : Nat, 1 ≤ l → l ≤ 7 → ∀ (o : Int) (t : Nat) (S : List f_E) (B : List Int), t ≤ T → 12 * (T - t) + (9 - l) < f → f_top S < (l : Int) → (l = 7 → (6 ≤ f_top S ∨ lc_cm K W t = false)) → lv_b K W T l o t S B (lc_ps K W f l o t)) ∧
    (∀ (o : Int) (t : Nat) (S : List f_E) (B : List Int), t ≤ T → 12 * (T - t) + 9 < f → f_top S < 1 → lv_0 K W T o t S B (lc_ps K W f 0 o t)) := by
  intro f
  induction f with
  | zero => exact ⟨fun o t S B _ h => by omega, fun l _ _ o t S B _ h => by omega, fun o t S B _ h => by omega⟩
  | succ f ih =>
    obtain ⟨ih8, ihb, ih0⟩ := ih
    refine ⟨?_, ?_, ?_⟩
    · intro o t S B ht hf hc
      rw [lc_ps, if_neg (by decide), if_pos rfl]
      by_cases hu : lc_uy (K t) (W t) = true
      · rw [if_pos hu]
        have hk : K t ≠ 0 := fun e => by rw [e, lc_uy_k0] at hu; cases hu
        have ht1 := lt_T hT ht hk
        by_cases h12 : 12 ≤ o
        · rw [if_pos h12]
          exact f_no_d (by unfold f_opd; rw [if_pos hu, if_pos h12])
        · rw [if_neg h12]
          have hr : f_opd K W t S o B = some (t + 1, true, (9, lc_un (K t) (W t), 0, 0) :: S, o + 1, B) := by unfold f_opd; rw [if_pos hu, if_neg h12]
          have hs := ih8 (o + 1) (t + 1) ((9, lc_un (K t) (W t), 0, 0) :: S) B ht1 (by omega) (Or.inl (by show (6 : Int) ≤ 9; decide))
          generalize lc_ps K W f 8 (o + 1) (t + 1) = q at hs
          match q, hs with
          | none, hs => exact f_no_tr (f_to_d hr) hs
          | some (t1, c1), ⟨g1, g2, g3⟩ =>
            have e : f_fin ((9, lc_un (K t) (W t), 0, 0) :: S) (o + 1) (B ++ c1) = f_fin S o (B ++ (c1 ++ lc_un (K t) (W t))) := by
              simp only [f_fin]
              rw [if_pos trivial, show o + 1 - 1 = o by omega, List.append_assoc]
            rw [e] at g3
            exact ⟨by omega, g2, f_to_tr (f_to_d hr) g3⟩
      · rw [if_neg hu]
        by_cases hp : K t = 5 ∧ W t = 40
        · rw [if_pos hp]
          have ht1 := lt_T hT ht (by omega)
          by_cases h12 : 12 ≤ o
          · rw [if_pos h12]
            exact f_no_d (by unfold f_opd; rw [if_neg hu, if_pos hp, if_pos h12])
          · rw [if_neg h12]
            have hr : f_opd K W t S o B = some (t + 1, true, (-1, [], 0, 0) :: S, o + 1, B) := by unfold f_opd; rw [if_neg hu, if_pos hp, if_neg h12]
            have hs := ih0 (o + 1) (t + 1) ((-1, [], 0, 0) :: S) B ht1 (by omega) (by show (-1 : Int) < 1; decide)
            generalize lc_ps K W f 0 (o + 1) (t + 1) = q at hs
            match q, hs with
            | none, hs => exact f_no_tr (f_to_d hr) hs
            | some (t1, c1), ⟨g1, g2, P, o1, B1, g3, g4, g5, g6⟩ =>
              have e : f_all ((-1, [], 0, 0) :: S) (o + 1) (B ++ c1) = ((-1, [], 0, 0) :: S, o + 1, B ++ c1) := f_all_stop (by show (-1 : Int) < 1; decide) (by show (-1 : Int) ≠ -3; decide)
              rw [e] at g4
              dsimp only
              by_cases hk : K t1 = 5 ∧ W t1 = 41
              · rw [if_pos hk]
                have hn0 : au_bn (K t1) (W t1) = 0 := by rw [hk.1, hk.2]; decide
                have hr2 : f_opr K W t1 (P ++ (-1, [], 0, 0) :: S) o1 B1 = some (.inl (t1 + 1, false, f_fin S o (B ++ c1))) := by
                  unfold f_opr
                  rw [if_pos hn0, if_neg g6, g4]
                  rw [f_end_c]
                  rw [if_neg (by omega), if_pos ⟨hk.1, hk.2, rfl⟩, show o + 1 - 1 = o by omega]
                have ht2 := lt_T hT g2 (by omega)
                exact ⟨by omega, ht2, f_to_tr (f_to_d hr) (f_to_tr g3 (f_to_r hr2))⟩
              · rw [if_neg hk]
                refine f_no_tr (f_to_d hr) (f_no_tr g3 (f_no_r ?_))
                rcases g5 with g5 | ⟨g5, g7⟩
                · unfold f_opr
                  rw [if_pos g5, if_neg g6, g4]
                  rw [f_end_c]
                  rw [if_neg (by rintro ⟨-, -, h⟩; exact absurd h (by decide)), if_neg (by rintro ⟨h1, h2, -⟩; exact hk ⟨h1, h2⟩)]
                · exact f_opr_4 g5 g7
        · rw [if_neg hp]
          have e : lc_at K W (decide (f_top S < 6)) t = lc_at K W false t := by
            rcases hc with hc | hc
            · rw [show decide (f_top S < 6) = false from decide_eq_false (by omega)]
            · exact lc_at_f hc
          have hd : f_opd K W t S o B = match lc_at K W false t with
              | none => none
              | some (t1, c) => some (t1, false, f_fin S o (B ++ c)) := by
            unfold f_opd
            rw [if_neg hu, if_neg hp, e]
            cases lc_at K W false t <;> rfl
          cases hq : lc_at K W false t with
          | none => rw [hq] at hd; exact f_no_d hd
          | some p =>
            obtain ⟨t1, c⟩ := p
            rw [hq] at hd
            have g := lc_at_lt hT ht hq
            exact ⟨g.1, g.2, f_to_d hd⟩
    · intro l hl1 hl7 o t S B ht hf hS hc
      rw [lc_ps, if_neg (by omega), if_neg (by omega)]
      have hsub : ∀ (t : Nat) (S : List f_E) (B : List Int), t ≤ T → 12 * (T - t) + (9 - (l + 1)) < f → f_top S < (l : Int) + 1 → (6 ≤ l → (6 ≤ f_top S ∨ lc_cm K W t = false)) → lv_b K W T (l + 1) o t S B (lc_ps K W f (l + 1) o t) := by
        intro t S B ht hf hS hc
        by_cases h7 : l = 7
        · subst h7
          exact lv_8_b (ih8 o t S B ht (by omega) (hc (by omega))) (by omega)
        · exact ihb (l + 1) (by omega) (by omega) o t S B ht hf (by omega) (fun h => hc (by omega))
      by_cases hcm : (decide (l = 6) && lc_cm K W t) = true
      · rw [if_pos hcm]
        have h2 : l = 6 ∧ lc_cm K W t = true := by simpa using hcm
        obtain ⟨h6, h3⟩ := h2
        obtain ⟨b, x, q1, q2, q3⟩ := lc_cm_at h3
        have g := lc_bs_lt (T := T) q1
        have g2 := lc_ad_lt (T := T) q2
        have hb := g.2.1 hT ht
        have hb2 := g2.1 hT hb
        have hd : f_opd K W t S o B = some (b + 2, false, [] ++ S, o, B ++ x :: lc_s 9 (lc_sg K W b)) := by
          unfold f_opd
          rw [if_neg (by rw [g.2.2.2.1]; decide), if_neg g.2.2.2.2.1, show decide (f_top S < 6) = true from decide_eq_true (by omega), q3]
          dsimp only
          rw [f_fin_stop (by omega)]
          rfl
        rw [q3]
        dsimp only
        have k := lv_pr (K := K) (W := W) (T := T) (l := l) (sub := fun t' => lc_ps K W f (l + 1) o t') (o := o) (S := S) (B := B) (t0 := t) hl1 hT hS (fun t' S2 B2 k1 k2 k3 => hsub t' S2 B2 k1 (by omega) (by omega) (fun _ => Or.inl (by omega)))
          f (b + 2) (x :: lc_s 9 (lc_sg K W b)) [] (B ++ x :: lc_s 9 (lc_sg K W b)) (by omega) (by omega) hb2 (fun e he => by simp at he) (by simp [f_fl]) (Or.inl (by omega)) (fun _ e he => by simp at he)
        generalize lc_pr (fun t' => lc_ps K W f (l + 1) o t') K W l f (b + 2) (x :: lc_s 9 (lc_sg K W b)) = r at k
        match r, k with
        | none, k => exact f_no_tr (f_to_d hd) k
        | some (t1, c1), ⟨k1, k2, P2, B2, k3, k4⟩ => exact ⟨by omega, k2, P2, B2, f_to_tr (f_to_d hd) k3, k4⟩
      · rw [if_neg hcm]
        have hcm2 : l = 6 → lc_cm K W t = false := by
          intro h6
          cases h : lc_cm K W t with
          | false => rfl
          | true => exact absurd (by simp [h6, h]) hcm
        have hs := hsub t S B ht (by omega) (by omega) (fun h => by
          by_cases h6 : l = 6
          · exact Or.inr (hcm2 h6)
          · exact hc (by omega))
        generalize lc_ps K W f (l + 1) o t = q at hs
        match q, hs with
        | none, hs => exact hs
        | some (t1, c1), ⟨g1, g2, P, B1, g3, g4, g5, g6⟩ =>
          dsimp only
          have k := lv_pr (K := K) (W := W) (T := T) (l := l) (sub := fun t' => lc_ps K W f (l + 1) o t') (o := o) (S := S) (B := B) (t0 := t) hl1 hT hS (fun t' S2 B2 k1 k2 k3 => hsub t' S2 B2 k1 (by omega) (by omega) (fun _ => Or.inl (by omega)))
            f t1 c1 P B1 (by omega) (by omega) g2 (fun e he => by have := g4 e he; omega) g5 g6 (fun h4 e he => by have := g4 e he; omega)
          generalize lc_pr (fun t' => lc_ps K W f (l + 1) o t') K W l f t1 c1 = r at k
          match r, k with
          | none, k => exact f_no_tr g3 k
          | some (t2, c2), ⟨k1, k2, P2, B2, k3, k4⟩ => exact ⟨by omega, k2, P2, B2, f_to_tr g3 k3, k4⟩
    · intro o t S B ht hf hS
      rw [lc_ps, if_pos rfl]
      have hs := ihb 1 (by decide) (by decide) o t S B ht (by omega) (by omega) (fun h => by omega)
      generalize lc_ps K W f 1 o t = q at hs
      match q, hs with
      | none, hs => exact hs
      | some (t1, c1), ⟨g1, g2, P, B1, g3, g4, g5, g6⟩ =>
        dsimp only
        have hg4 : ∀ e, e ∈ P → 1 ≤ e.1 := fun e he => by have := g4 e he; omega
        have hst : au_bn (K t1) (W t1) = 0 ∨ (au_bn (K t1) (W t1) = 4 ∧ lv_4 P) := by
          have := au_bn_rg (K t1) (W t1)
          rcases g6 with g6 | ⟨-, g7, g8⟩
          · exact Or.inl (by omega)
          · exact Or.inr ⟨g7, g8⟩
        by_cases hq : K t1 = 5 ∧ W t1 = 63
        · rw [if_pos hq]
          have hn0 : au_bn (K t1) (W t1) = 0 := by rw [hq.1, hq.2]; decide
          have hpop : f_pop 1 (P ++ S) B1 = (S, B ++ c1) := by rw [f_pop_app hg4, f_pop_stop hS, g5]
          by_cases h12 : 12 ≤ o
          · rw [if_pos h12]
            refine f_no_tr g3 (f_no_r ?_)
            unfold f_opr
            rw [if_pos hn0, if_pos hq, if_pos h12]
          · rw [if_neg h12]
            have hr : f_opr K W t1 (P ++ S) o B1 = some (.inl (t1 + 1, true, (-2, [], (B ++ c1).length + 1, 0) :: S, o + 1, B ++ c1 ++ [40, 0, 0])) := by
              unfold f_opr
              rw [if_pos hn0, if_pos hq, if_neg h12, hpop]
            have ht1 := lt_T hT g2 (by omega)
            have hs2 := ih0 (o + 1) (t1 + 1) ((-2, [], (B ++ c1).length + 1, 0) :: S) (B ++ c1 ++ [40, 0, 0]) ht1 (by omega) (by show (-2 : Int) < 1; decide)
            generalize lc_ps K W f 0 (o + 1) (t1 + 1) = q2 at hs2
            match q2, hs2 with
            | none, hs2 => exact f_no_tr g3 (f_no_tr (f_to_r hr) hs2)
            | some (t2, c2), ⟨k1, k2, P2, o2, B2, k3, k4, k5, k6⟩ =>
              dsimp only
              have e : f_all ((-2, [], (B ++ c1).length + 1, 0) :: S) (o + 1) (B ++ c1 ++ [40, 0, 0] ++ c2) = ((-2, [], (B ++ c1).length + 1, 0) :: S, o + 1, B ++ c1 ++ [40, 0, 0] ++ c2) := f_all_stop (by show (-2 : Int) < 1; decide) (by show (-2 : Int) ≠ -3; decide)
              rw [e] at k4
              by_cases hk : K t2 = 5 ∧ W t2 = 58
              · rw [if_pos hk]
                have hn2 : au_bn (K t2) (W t2) = 0 := by rw [hk.1, hk.2]; decide
                have hr2 : f_opr K W t2 (P2 ++ (-2, [], (B ++ c1).length + 1, 0) :: S) o2 B2 = some (.inl (t2 + 1, true, (-3, [], (B ++ c1).length + 1, (B ++ c1 ++ [40, 0, 0] ++ c2).length) :: S, o + 1, B ++ c1 ++ [40, 0, 0] ++ c2)) := by
                  unfold f_opr
                  rw [if_pos hn2, if_neg k6, k4]
                  rw [f_end_c]
                  rw [if_pos ⟨hk.1, hk.2, rfl⟩]
                have ht2 := lt_T hT k2 (by omega)
                have hs3 := ih0 (o + 1) (t2 + 1) ((-3, [], (B ++ c1).length + 1, (B ++ c1 ++ [40, 0, 0] ++ c2).length) :: S) (B ++ c1 ++ [40, 0, 0] ++ c2) ht2 (by omega) (by show (-3 : Int) < 1; decide)
                generalize lc_ps K W f 0 (o + 1) (t2 + 1) = q3 at hs3
                match q3, hs3 with
                | none, hs3 => exact f_no_tr g3 (f_no_tr (f_to_r hr) (f_no_tr k3 (f_no_tr (f_to_r hr2) hs3)))
                | some (t3, c3), ⟨m1, m2, P3, o3, B3, m3, m4, m5, m6⟩ =>
                  dsimp only
                  rw [f_all_3, f_turn_eq, show o + 1 - 1 = o by omega] at m4
                  have e3 : P3 ++ (-3, [], (B ++ c1).length + 1, (B ++ c1 ++ [40, 0, 0] ++ c2).length) :: S = (P3 ++ [(-3, [], (B ++ c1).length + 1, (B ++ c1 ++ [40, 0, 0] ++ c2).length)]) ++ S := by simp
                  rw [e3] at m3 m4
                  refine ⟨by omega, m2, _, o3, B3, f_to_tr g3 (f_to_tr (f_to_r hr) (f_to_tr k3 (f_to_tr (f_to_r hr2) m3))), m4, ?_, m6⟩
                  rcases m5 with m5 | ⟨m5, m7⟩
                  · exact Or.inl m5
                  · exact Or.inr ⟨m5, lv_4_app m7⟩
              · rw [if_neg hk]
                refine f_no_tr g3 (f_no_tr (f_to_r hr) (f_no_tr k3 (f_no_r ?_)))
                rcases k5 with k5 | ⟨k5, k7⟩
                · unfold f_opr
                  rw [if_pos k5, if_neg k6, k4]
                  rw [f_end_c]
                  rw [if_neg (by rintro ⟨h1, h2, -⟩; exact hk ⟨h1, h2⟩), if_neg (by rintro ⟨-, -, h⟩; exact absurd (show (-2 : Int) = -1 from h) (by decide))]
                · exact f_opr_4 k5 k7
        · rw [if_neg hq]
          refine ⟨g1, g2, P, o, B1, g3, ?_, hst, hq⟩
          rw [f_all_app hg4, g5]
/-- an expression from t on, as chosen reads it -/
theorem lv_chosen (hT : K T = 0) {o : Int} {t : Nat} {B : List Int} (ht : t ≤ T) {f : Nat} (hf : 12 * (T - t) + 9 < f) :
    match lc_ps K W f 0 o t with
    | none => f_no K W (t, true, [], o, B)
    | some (t1, c) => t < t1 ∧ t1 ≤ T ∧ ((au_bn (K t1) (W t1) = 0 ∧ ¬ (K t1 = 5 ∧ W t1 = 63) ∧ ∃ k, ∀ n, f_run K W (k + n + 1) (t, true, [], o, B) = some (t1, o, B ++ c)) ∨ (au_bn (K t1) (W t1) = 4 ∧ f_no K W (t, true, [], o, B))) := by
  have h := (lv_main (W := W) hT f).2.2 o t [] B ht hf (by decide)
  generalize lc_ps K W f 0 o t = q at h
  match q, h with
  | none, h => exact h
  | some (t1, c), ⟨h1, h2, P, o1, B1, ⟨k, h3⟩, h4, h5, h6⟩ =>
    refine ⟨h1, h2, ?_⟩
    rcases h5 with h5 | ⟨h5, h7⟩
    · refine Or.inl ⟨h5, h6, k, fun n => ?_⟩
      rw [Nat.add_assoc, h3]
      refine f_run_re ?_
      unfold f_opr
      rw [if_pos h5, if_neg h6, h4]
      rfl
    · exact Or.inr ⟨h5, f_no_tr ⟨k, h3⟩ (f_no_r (f_opr_4 h5 h7))⟩
end LM
