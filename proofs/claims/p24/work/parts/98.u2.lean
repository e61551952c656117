/-! The reference's walk writes what the levels say, and refuses what they refuse. -/
def f_fl (P : List f_E) : List Int := (P.map (fun e => e.2.1)).flatten
theorem f_fl_app (P Q : List f_E) : f_fl (P ++ Q) = f_fl P ++ f_fl Q := by simp [f_fl]
theorem f_fl_cons (e : f_E) (P : List f_E) : f_fl (e :: P) = e.2.1 ++ f_fl P := by simp [f_fl]
theorem f_fl_nil : f_fl [] = [] := rfl
theorem f_pop_app {b : Int} : ∀ {P S : List f_E} {B : List Int}, (∀ e, e ∈ P → b ≤ e.1) → f_pop b (P ++ S) B = f_pop b S (B ++ f_fl P)
  | [], S, B, _ => by simp [f_fl]
  | e :: P, S, B, h => by
    have h1 : b ≤ e.1 := h e (by simp)
    have h2 : f_pop b (e :: P ++ S) B = f_pop b (P ++ S) (B ++ e.2.1) := by
      show f_pop b (e :: (P ++ S)) B = _
      simp only [f_pop, if_pos h1]
    rw [h2, f_pop_app (fun x hx => h x (by simp [hx])), f_fl_cons, List.append_assoc]
theorem f_pop_stop {b : Int} {S : List f_E} {B : List Int} (h : f_top S < b) : f_pop b S B = (S, B) := by
  cases S with
  | nil => rfl
  | cons e S =>
    have h2 : e.1 < b := h
    simp only [f_pop]
    rw [if_neg (by omega)]
theorem f_fin_stop {S : List f_E} {o : Int} {B : List Int} (h : f_top S ≠ 9) : f_fin S o B = (S, o, B) := by
  cases S with
  | nil => rfl
  | cons e S =>
    have h2 : e.1 ≠ 9 := h
    simp only [f_fin]
    rw [if_neg h2]
theorem f_all_app : ∀ {P S : List f_E} {o : Int} {B : List Int}, (∀ e, e ∈ P → 1 ≤ e.1) → f_all (P ++ S) o B = f_all S o (B ++ f_fl P)
  | [], S, o, B, _ => by simp [f_fl]
  | e :: P, S, o, B, h => by
    have h1 : 1 ≤ e.1 := h e (by simp)
    have h2 : f_all (e :: P ++ S) o B = f_all (P ++ S) o (B ++ e.2.1) := by
      show f_all (e :: (P ++ S)) o B = _
      simp only [f_all, if_pos h1]
    rw [h2, f_all_app (fun x hx => h x (by simp [hx])), f_fl_cons, List.append_assoc]
theorem f_all_stop {S : List f_E} {o : Int} {B : List Int} (h : f_top S < 1) (h3 : f_top S ≠ -3) : f_all S o B = (S, o, B) := by
  cases S with
  | nil => rfl
  | cons e S =>
    have h2 : e.1 < 1 := h
    have h4 : e.1 ≠ -3 := h3
    simp only [f_all]
    rw [if_neg (by omega), if_neg h4]
theorem f_all_3 {S : List f_E} {o : Int} {B x : List Int} {a m : Nat} : f_all ((-3, x, a, m) :: S) o B = f_all S (o - 1) (f_turn a m B) := by
  simp only [f_all]
  rw [if_neg (by decide)]
  rfl
section FR
variable {K W : Nat → Int}
theorem f_run_d {n t : Nat} {S : List f_E} {o : Int} {B : List Int} {s : f_St} (h : f_opd K W t S o B = some s) : f_run K W (n + 1) (t, true, S, o, B) = f_run K W n s := by simp only [f_run, h]
theorem f_run_d0 {n t : Nat} {S : List f_E} {o : Int} {B : List Int} (h : f_opd K W t S o B = none) : f_run K W (n + 1) (t, true, S, o, B) = none := by simp only [f_run, h]
theorem f_run_r {n t : Nat} {S : List f_E} {o : Int} {B : List Int} {s : f_St} (h : f_opr K W t S o B = some (.inl s)) : f_run K W (n + 1) (t, false, S, o, B) = f_run K W n s := by simp only [f_run, h]
theorem f_run_r0 {n t : Nat} {S : List f_E} {o : Int} {B : List Int} (h : f_opr K W t S o B = none) : f_run K W (n + 1) (t, false, S, o, B) = none := by simp only [f_run, h]
theorem f_run_re {n t : Nat} {S : List f_E} {o : Int} {B : List Int} {r : Nat × Int × List Int} (h : f_opr K W t S o B = some (.inr r)) : f_run K W (n + 1) (t, false, S, o, B) = some r := by simp only [f_run, h]
def f_to (K W : Nat → Int) (a b : f_St) : Prop := ∃ k, ∀ n, f_run K W (k + n) a = f_run K W n b
def f_no (K W : Nat → Int) (a : f_St) : Prop := ∃ k, ∀ n, f_run K W (k + n) a = none
theorem f_to_rf {a : f_St} : f_to K W a a := ⟨0, fun n => by rw [Nat.zero_add]⟩
theorem f_to_tr {a b c : f_St} (h : f_to K W a b) (h2 : f_to K W b c) : f_to K W a c := by
  obtain ⟨k, hk⟩ := h
  obtain ⟨m, hm⟩ := h2
  exact ⟨k + m, fun n => by rw [Nat.add_assoc, hk, hm]⟩
theorem f_no_tr {a b : f_St} (h : f_to K W a b) (h2 : f_no K W b) : f_no K W a := by
  obtain ⟨k, hk⟩ := h
  obtain ⟨m, hm⟩ := h2
  exact ⟨k + m, fun n => by rw [Nat.add_assoc, hk, hm]⟩
theorem f_to_d {t : Nat} {S : List f_E} {o : Int} {B : List Int} {s : f_St} (h : f_opd K W t S o B = some s) : f_to K W (t, true, S, o, B) s := ⟨1, fun n => by rw [Nat.add_comm 1 n]; exact f_run_d h⟩
theorem f_to_r {t : Nat} {S : List f_E} {o : Int} {B : List Int} {s : f_St} (h : f_opr K W t S o B = some (.inl s)) : f_to K W (t, false, S, o, B) s := ⟨1, fun n => by rw [Nat.add_comm 1 n]; exact f_run_r h⟩
theorem f_no_d {t : Nat} {S : List f_E} {o : Int} {B : List Int} (h : f_opd K W t S o B = none) : f_no K W (t, true, S, o, B) := ⟨1, fun n => by rw [Nat.add_comm 1 n]; exact f_run_d0 h⟩
theorem f_no_r {t : Nat} {S : List f_E} {o : Int} {B : List Int} (h : f_opr K W t S o B = none) : f_no K W (t, false, S, o, B) := ⟨1, fun n => by rw [Nat.add_comm 1 n]; exact f_run_r0 h⟩
end FR
theorem au_bn_k0 (w : Int) : au_bn 0 w = 0 := by simp [au_bn]
theorem lc_uy_k0 (w : Int) : lc_uy 0 w = false := by simp [lc_uy]
def lv_4 (P : List f_E) : Prop := ∃ P1 e P2, P = P1 ++ e :: P2 ∧ (∀ x, x ∈ P1 → 5 ≤ x.1) ∧ e.1 = 4
def lv_st (K W : Nat → Int) (l t : Nat) (P : List f_E) : Prop := au_bn (K t) (W t) < (l : Int) ∨ (l ≤ 4 ∧ au_bn (K t) (W t) = 4 ∧ lv_4 P)
def lv_8 (K W : Nat → Int) (T : Nat) (o : Int) (t : Nat) (S : List f_E) (B : List Int) (r : Option (Nat × List Int)) : Prop := match r with
  | none => f_no K W (t, true, S, o, B)
  | some (t1, c) => t < t1 ∧ t1 ≤ T ∧ f_to K W (t, true, S, o, B) (t1, false, f_fin S o (B ++ c))
def lv_b (K W : Nat → Int) (T l : Nat) (o : Int) (t : Nat) (S : List f_E) (B : List Int) (r : Option (Nat × List Int)) : Prop := match r with
  | none => f_no K W (t, true, S, o, B)
  | some (t1, c) => t < t1 ∧ t1 ≤ T ∧ ∃ P B1, f_to K W (t, true, S, o, B) (t1, false, P ++ S, o, B1) ∧ (∀ e, e ∈ P → (l : Int) ≤ e.1) ∧ B1 ++ f_fl P = B ++ c ∧ lv_st K W l t1 P
def lv_0 (K W : Nat → Int) (T : Nat) (o : Int) (t : Nat) (S : List f_E) (B : List Int) (r : Option (Nat × List Int)) : Prop := match r with
  | none => f_no K W (t, true, S, o, B)
  | some (t1, c) => t < t1 ∧ t1 ≤ T ∧ ∃ P o1 B1, f_to K W (t, true, S, o, B) (t1, false, P ++ S, o1, B1) ∧ f_all (P ++ S) o1 B1 = f_all S o (B ++ c) ∧ (au_bn (K t1) (W t1) = 0 ∨ (au_bn (K t1) (W t1) = 4 ∧ lv_4 P)) ∧ ¬ (K t1 = 5 ∧ W t1 = 63)
theorem lv_4_app {P Q : List f_E} (h : lv_4 P) : lv_4 (P ++ Q) := by
  obtain ⟨P1, e, P2, rfl, h1, h2⟩ := h
  exact ⟨P1, e, P2 ++ Q, by simp, h1, h2⟩
section LV
variable {K W : Nat → Int} {T : Nat}
theorem lv_8_b {o : Int} {t : Nat} {S : List f_E} {B : List Int} {r : Option (Nat × List Int)} (h : lv_8 K W T o t S B r) (hS : f_top S ≠ 9) : lv_b K W T 8 o t S B r := by
  match r, h with
  | none, h => exact h
  | some (t1, c), ⟨h1, h2, h3⟩ =>
    rw [f_fin_stop hS] at h3
    refine ⟨h1, h2, [], B ++ c, h3, fun e he => by simp at he, by simp [f_fl], Or.inl ?_⟩
    have := au_bn_rg (K t1) (W t1)
    omega
theorem f_opr_4 {t : Nat} {P S : List f_E} {o : Int} {B : List Int} (h4 : au_bn (K t) (W t) = 4) (hP : lv_4 P) : f_opr K W t (P ++ S) o B = none := by
  obtain ⟨P1, e, P2, rfl, h1, h2⟩ := hP
  have e1 : f_pop 5 (P1 ++ e :: P2 ++ S) B = (e :: (P2 ++ S), B ++ f_fl P1) := by
    rw [List.append_assoc, f_pop_app h1]
    exact f_pop_stop (by show e.1 < 5; omega)
  unfold f_opr
  rw [if_neg (by omega), if_neg (by simp [h4]), if_pos ⟨h4, by rw [e1]; exact h2⟩]
theorem lv_pr {l : Nat} {sub : Nat → Option (Nat × List Int)} {o : Int} {S : List f_E} {B : List Int} {t0 : Nat} (hl : 1 ≤ l) (hT : K T = 0) (hS : f_top S < (l : Int))
    (hsub : ∀ (t : Nat) (S2 : List f_E) (B2 : List Int), t ≤ T → t0 ≤ t → f_top S2 = (l : Int) → lv_b K W T (l + 1) o t S2 B2 (sub t)) :
    ∀ (n t : Nat) (c : List Int) (P : List f_E) (B1 : List Int), T - t < n → t0 ≤ t → t ≤ T → (∀ e, e ∈ P → (l : Int) ≤ e.1) → B1 ++ f_fl P = B ++ c → lv_st K W (l + 1) t P → (l = 4 → ∀ e, e ∈ P → 5 ≤ e.1) →
      match lc_pr sub K W l n t c with
      | none => f_no K W (t, false, P ++ S, o, B1)
      | some (t1, c1) => t ≤ t1 ∧ t1 ≤ T ∧ ∃ P2 B2, f_to K W (t, false, P ++ S, o, B1) (t1, false, P2 ++ S, o, B2) ∧ (∀ e, e ∈ P2 → (l : Int) ≤ e.1) ∧ B2 ++ f_fl P2 = B ++ c1 ∧ lv_st K W l t1 P2 := by
  intro n
  induction n with
  | zero => intro t c P B1 h1; omega
  | succ n ih =>
    intro t c P B1 h1 h2 h3 hP hB hst h4
    have hbn := au_bn_rg (K t) (W t)
    rw [lc_pr]
    by_cases hb : au_bn (K t) (W t) = (l : Int)
    · rw [if_pos hb]
      have htT : t + 1 ≤ T := by
        rcases Nat.lt_or_ge t T with h | h
        · omega
        · exfalso
          have e : t = T := by omega
          rw [e, hT, au_bn_k0] at hb
          omega
      have hpop : ∀ b : Int, b = (l : Int) → f_pop b (P ++ S) B1 = (S, B ++ c) := by
        intro b hbl
        subst hbl
        rw [f_pop_app hP, f_pop_stop hS, hB]
      by_cases ha : (decide (l = 6 ∧ W t = 43) && lc_al K W (t + 1)) = true
      · rw [if_pos ha]
        have ha2 : (l = 6 ∧ W t = 43) ∧ lc_al K W (t + 1) = true := by simpa using ha
        obtain ⟨⟨hl6, hw⟩, hal⟩ := ha2
        have hb6 : au_bn (K t) (W t) = 6 := by omega
        have hr : f_opr K W t (P ++ S) o B1 = some (.inl (t + 2, false, [] ++ S, o, (B ++ c) ++ 35 :: lc_u 9 (W (t + 1)))) := by
          unfold f_opr
          rw [if_neg (by omega), if_pos (by rw [Bool.and_eq_true]; exact ⟨decide_eq_true ⟨hb6, hw⟩, hal⟩), hpop 6 (by omega)]
          rfl
        have hal2 : K (t + 1) = 3 ∧ au_bn (K (t + 2)) (W (t + 2)) ≠ 7 := by simpa [lc_al] using hal
        have htT2 : t + 2 ≤ T := by
          rcases Nat.lt_or_ge (t + 1) T with h | h
          · omega
          · exfalso
            have e : t + 1 = T := by omega
            rw [e, hT] at hal2
            exact absurd hal2.1 (by decide)
        have hn := au_bn_rg (K (t + 2)) (W (t + 2))
        have g := ih (t + 2) (c ++ 35 :: lc_u 9 (W (t + 1))) [] ((B ++ c) ++ 35 :: lc_u 9 (W (t + 1))) (by omega) (by omega) htT2 (fun e he => by simp at he) (by simp [f_fl]) (Or.inl (by omega)) (fun _ e he => by simp at he)
        generalize lc_pr sub K W l n (t + 2) (c ++ 35 :: lc_u 9 (W (t + 1))) = r at g
        match r, g with
        | none, g => exact f_no_tr (f_to_r hr) g
        | some (t1, c1), ⟨g1, g2, P2, B2, g3, g4⟩ => exact ⟨by omega, g2, P2, B2, f_to_tr (f_to_r hr) g3, g4⟩
      · rw [if_neg ha]
        have hr : f_opr K W t (P ++ S) o B1 = some (.inl (t + 1, true, (au_bn (K t) (W t), [lc_op (K t) (W t)], 0, 0) :: S, o, B ++ c)) := by
          unfold f_opr
          rw [if_neg (by omega), if_neg (by intro hx; apply ha; simp at hx ⊢; exact ⟨⟨by omega, hx.1.2⟩, hx.2⟩), if_neg (by
            rintro ⟨h5, h6⟩
            have hl4 : l = 4 := by omega
            rw [f_pop_app (h4 hl4), f_pop_stop (by omega)] at h6
            dsimp only at h6
            omega), hpop _ hb]
        have hs := hsub (t + 1) ((au_bn (K t) (W t), [lc_op (K t) (W t)], 0, 0) :: S) (B ++ c) htT (by omega) hb
        generalize sub (t + 1) = q at hs
        match q, hs with
        | none, hs => exact f_no_tr (f_to_r hr) hs
        | some (t1, c1), ⟨g1, g2, P1, B2, g3, g4, g5, g6⟩ =>
          have e1 : P1 ++ (au_bn (K t) (W t), [lc_op (K t) (W t)], 0, 0) :: S = (P1 ++ [(au_bn (K t) (W t), [lc_op (K t) (W t)], 0, 0)]) ++ S := by simp
          rw [e1] at g3
          have e2 : B2 ++ f_fl (P1 ++ [(au_bn (K t) (W t), [lc_op (K t) (W t)], 0, 0)]) = B ++ (c ++ (c1 ++ [lc_op (K t) (W t)])) := by
            rw [f_fl_app, ← List.append_assoc, g5]
            simp [f_fl]
          have e3 : ∀ e, e ∈ P1 ++ [(au_bn (K t) (W t), [lc_op (K t) (W t)], 0, 0)] → (l : Int) ≤ e.1 := by
            intro e he
            rcases List.mem_append.mp he with he | he
            · have := g4 e he
              omega
            · have he2 := List.mem_singleton.mp he
              rw [he2]
              dsimp only
              omega
          by_cases hl4 : l = 4
          · dsimp only
            rw [if_pos hl4]
            refine ⟨by omega, g2, _, B2, f_to_tr (f_to_r hr) g3, e3, e2, ?_⟩
            have hn := au_bn_rg (K t1) (W t1)
            rcases g6 with g6 | ⟨g6, -⟩
            · by_cases h9 : au_bn (K t1) (W t1) = 4
              · exact Or.inr ⟨by omega, h9, P1, _, [], rfl, fun x hx => by have := g4 x hx; omega, by dsimp only; omega⟩
              · exact Or.inl (by omega)
            · omega
          · dsimp only
            rw [if_neg hl4]
            have g := ih t1 (c ++ (c1 ++ [lc_op (K t) (W t)])) _ B2 (by omega) (by omega) g2 e3 e2 (by
              rcases g6 with g6 | ⟨g6, g7, g8⟩
              · exact Or.inl g6
              · exact Or.inr ⟨g6, g7, lv_4_app g8⟩) (fun h => absurd h hl4)
            generalize lc_pr sub K W l n t1 (c ++ (c1 ++ [lc_op (K t) (W t)])) = r at g
            match r, g with
            | none, g => exact f_no_tr (f_to_tr (f_to_r hr) g3) g
            | some (t2, c2), ⟨k1, k2, P2, B3, k3, k4⟩ => exact ⟨by omega, k2, P2, B3, f_to_tr (f_to_tr (f_to_r hr) g3) k3, k4⟩
    · rw [if_neg hb]
      refine ⟨Nat.le_refl _, h3, P, B1, f_to_rf, hP, hB, ?_⟩
      rcases hst with hst | ⟨g1, g2, g3⟩
      · exact Or.inl (by omega)
      · exact Or.inr ⟨by omega, g2, g3⟩
end LV
