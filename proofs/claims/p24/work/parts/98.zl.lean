/-! THE CLASS'S PARSER over expressions: what it builds codes to what lc_ps says. (Definitions, the side of lc_ps, what stands alone.) -/
def p_H (l : Nat) (o : Int) : Nat := (12 - o).toNat * 9 + (8 - l)
/-- lc_ps with fuel enough -/
def l_ev (K W : Nat → Int) (l : Nat) (o : Int) (t : Nat) (r : Option (Nat × List Int)) : Prop := ∃ F0, ∀ f, F0 ≤ f → lc_ps K W f l o t = r
def l_pe (K W : Nat → Int) (l : Nat) (o : Int) (t : Nat) (c : List Int) (r : Option (Nat × List Int)) : Prop := ∃ F0, ∀ f N, F0 ≤ f → F0 ≤ N → lc_pr (fun t' => lc_ps K W f (l + 1) o t') K W l N t c = r
theorem l_ev_u {K W : Nat → Int} {l t : Nat} {o : Int} {r r2 : Option (Nat × List Int)} (h : l_ev K W l o t r) (h2 : l_ev K W l o t r2) : r = r2 := by
  obtain ⟨a, h⟩ := h
  obtain ⟨b, h2⟩ := h2
  rw [← h (a + b) (by omega), h2 (a + b) (by omega)]
/-- what stands alone -/
theorem l_8 {K W : Nat → Int} {t : Nat} {o : Int} (h1 : lc_uy (K t) (W t) = false) (h2 : ¬ (K t = 5 ∧ W t = 40)) : l_ev K W 8 o t (lc_at K W false t) := by
  refine ⟨1, fun f hf => ?_⟩
  cases f with
  | zero => omega
  | succ f =>
    rw [lc_ps, if_neg (by decide), if_pos rfl, if_neg (by rw [h1]; decide), if_neg h2]
/-- what is made of an operand -/
def l_mu (u : List Int) : Option (Nat × List Int) → Option (Nat × List Int)
  | none => none
  | some (t1, c1) => some (t1, c1 ++ u)
def l_mp (K W : Nat → Int) : Option (Nat × List Int) → Option (Nat × List Int)
  | none => none
  | some (t1, c1) => if K t1 = 5 ∧ W t1 = 41 then some (t1 + 1, c1) else none
/-- a sign ahead of an operand -/
theorem l_8u {K W : Nat → Int} {t : Nat} {o : Int} {r : Option (Nat × List Int)} (h1 : lc_uy (K t) (W t) = true) (ho : o < 12) (h : l_ev K W 8 (o + 1) (t + 1) r) : l_ev K W 8 o t (l_mu (lc_un (K t) (W t)) r) := by
  obtain ⟨a, h⟩ := h
  refine ⟨a + 1, fun f hf => ?_⟩
  cases f with
  | zero => omega
  | succ f =>
    rw [lc_ps, if_neg (by decide), if_pos rfl, if_pos h1, if_neg (by omega), h f (by omega)]
    cases r <;> rfl
theorem l_8n {K W : Nat → Int} {t : Nat} {o : Int} (h1 : lc_uy (K t) (W t) = true ∨ (K t = 5 ∧ W t = 40)) (ho : 12 ≤ o) : l_ev K W 8 o t none := by
  refine ⟨1, fun f hf => ?_⟩
  cases f with
  | zero => omega
  | succ f =>
    rw [lc_ps, if_neg (by decide), if_pos rfl]
    by_cases h2 : lc_uy (K t) (W t) = true
    · rw [if_pos h2, if_pos ho]
    · rw [if_neg h2, if_pos (h1.resolve_left h2), if_pos ho]
/-- a parenthesis -/
theorem l_8p {K W : Nat → Int} {t : Nat} {o : Int} {r : Option (Nat × List Int)} (h2 : K t = 5 ∧ W t = 40) (ho : o < 12) (h : l_ev K W 0 (o + 1) (t + 1) r) : l_ev K W 8 o t (l_mp K W r) := by
  have h1 : ¬ lc_uy (K t) (W t) = true := by
    unfold lc_uy
    rw [decide_eq_true_eq]
    omega
  obtain ⟨a, h⟩ := h
  refine ⟨a + 1, fun f hf => ?_⟩
  cases f with
  | zero => omega
  | succ f =>
    rw [lc_ps, if_neg (by decide), if_pos rfl, if_neg h1, if_pos h2, if_neg (by omega), h f (by omega)]
    cases r <;> rfl
/-- a choice's first -/
theorem l_0 {K W : Nat → Int} {t : Nat} {o : Int} {r : Option (Nat × List Int)} (h : l_ev K W 1 o t r) (hr : ∀ t1 c1, r = some (t1, c1) → ¬ (K t1 = 5 ∧ W t1 = 63)) : l_ev K W 0 o t r := by
  obtain ⟨a, h⟩ := h
  refine ⟨a + 1, fun f hf => ?_⟩
  cases f with
  | zero => omega
  | succ f =>
    rw [lc_ps, if_pos rfl, h f (by omega)]
    cases r with
    | none => rfl
    | some x =>
      obtain ⟨t1, c1⟩ := x
      dsimp only
      rw [if_neg (hr t1 c1 rfl)]
/-- what the cells below 176 say stays -/
theorem s_cells {K W : Nat → Int} {M t : Nat} {o : Int} {FI F2 : Nat → Nat → Int32} {FL L2 : Nat → Nat → Int64} (h1 : ∀ c, c < 176 → F2 c = FI c) (h2 : ∀ c, c < 176 → L2 c = FL c) (hq : q_tk K W M FI FL) (hv : s_vw M FI FL t o) : q_tk K W M F2 L2 ∧ s_vw M F2 L2 t o := by
  refine ⟨q_fr hq ⟨h1 112 (by decide), by rw [h1 111 (by decide)], h2 113 (by decide)⟩, ?_⟩
  unfold s_vw
  rw [h1 110 (by decide), h1 112 (by decide), h2 110 (by decide), h2 113 (by decide)]
  exact hv
/-- what is known of the root of a reading from t to t2 -/
def p_kd (K W : Nat → Int) (t t2 : Nat) (F : Nat → Nat → Int32) (L : Nat → Nat → Int64) (c : Nat) : Prop := ((F c 0).toInt = 5 ↔ K t = 3 ∧ t2 = t + 1) ∧ (K t = 3 ∧ t2 = t + 1 → (L c 1).toInt = W t) ∧ (((F c 0).toInt = 37 ∨ (F c 0).toInt = 11) ↔ ∃ x, lc_bs K W t = some (t2, x)) ∧ (∀ x, lc_bs K W t = some (t2, x) → ∀ p, n_bs (F c 0).toInt (L c 1).toInt p = x :: lc_s 9 p)
/-- what a reading at level l from t, with o open, comes to -/
def p_ok (K W : Nat → Int) (M n l : Nat) (o : Int) (t n2 : Nat) (F2 : Nat → Nat → Int32) (L2 : Nat → Nat → Int64) (R2 : Nat → Nat → Option Nat) (c : Nat) : Prop := (∃ t2 code, l_ev K W l o t (some (t2, code)) ∧ t < t2 ∧ s_vw M F2 L2 t2 o ∧ n_is F2 L2 R2 n n2 c (p_H l o) code ∧ p_kd K W t t2 F2 L2 c ∧ (l = 7 → au_bn (K t2) (W t2) ≠ 7)) ∨ (l_ev K W l o t none ∧ s_ft F2)
def p_res (K W : Nat → Int) (M n l : Nat) (o : Int) (t : Nat) (v : Option Nat) (s : hS) : Prop := ∃ c n2 sl2 SH2 F2 L2 R2, v = some c ∧ s = (n2, sl2, SH2, F2, L2, R2) ∧ p_ok K W M n l o t n2 F2 L2 R2 c
section AT
variable {K W : Nat → Int} {t : Nat}
theorem at_3 (h : K t = 3) : lc_at K W false t = some (t + 1, lc_c (W t)) := by
  unfold lc_at
  rw [if_pos h]
theorem at_5 (h : K t = 2 ∧ W t = 5) : lc_at K W false t = some (t + 1, [156]) := by
  unfold lc_at
  rw [if_neg (by omega), if_pos h]
theorem at_6 (h : K t = 2 ∧ W t = 6) : lc_at K W false t = some (t + 1, [151]) := by
  unfold lc_at
  rw [if_neg (by omega), if_neg (by omega), if_pos h]
theorem bs_4 (h : K t = 2 ∧ W t = 4) : lc_bs K W t = some (t + 1, 145) := by
  unfold lc_bs
  rw [if_neg (by omega), if_pos h]
theorem at_4 (h : K t = 2 ∧ W t = 4) : lc_at K W false t = some (t + 1, 145 :: lc_s 9 0) := by
  unfold lc_at
  rw [if_neg (by omega), if_neg (by omega), if_neg (by omega), bs_4 h]
  rfl
theorem bs_r (h : K t = 5 ∧ W t = 37) : lc_bs K W t = if K (t + 1) = 3 ∧ W (t + 1) ≤ 31 then some (t + 2, 112 + W (t + 1)) else none := by
  unfold lc_bs
  rw [if_pos h]
theorem at_r (h : K t = 5 ∧ W t = 37) : lc_at K W false t = if K (t + 1) = 3 ∧ W (t + 1) ≤ 31 then some (t + 2, (112 + W (t + 1)) :: lc_s 9 0) else none := by
  unfold lc_at
  rw [if_neg (by omega), if_neg (by omega), if_neg (by omega), bs_r h]
  by_cases h1 : K (t + 1) = 3 ∧ W (t + 1) ≤ 31
  · rw [if_pos h1, if_pos h1]
    rfl
  · rw [if_neg h1, if_neg h1]
theorem bs_n (h : ¬ (K t = 5 ∧ W t = 37)) (h4 : ¬ (K t = 2 ∧ W t = 4)) : lc_bs K W t = none := by
  unfold lc_bs
  rw [if_neg h, if_neg h4]
theorem at_n (h3 : K t ≠ 3) (h5 : ¬ (K t = 2 ∧ W t = 5)) (h6 : ¬ (K t = 2 ∧ W t = 6)) (h4 : ¬ (K t = 2 ∧ W t = 4)) (h : ¬ (K t = 5 ∧ W t = 37)) : lc_at K W false t = none := by
  unfold lc_at
  rw [if_neg h3, if_neg h5, if_neg h6, bs_n h h4]
end AT

theorem bn_6 {k w : Int} : au_bn k w = 6 ↔ k = 5 ∧ (w = 43 ∨ w = 45) := by
  unfold au_bn
  constructor
  · intro h
    repeat' split at h
    all_goals omega
  · intro h
    rw [if_neg (by omega), if_pos h]
theorem bs_le {K W : Nat → Int} {t b : Nat} {x : Int} (h : lc_bs K W t = some (b, x)) : b ≤ t + 2 ∧ K t ≠ 3 := by
  unfold lc_bs at h
  by_cases h1 : K t = 5 ∧ W t = 37
  · rw [if_pos h1] at h
    by_cases h2 : K (t + 1) = 3 ∧ W (t + 1) ≤ 31
    · rw [if_pos h2] at h
      have e := Option.some.inj h
      have e1 : t + 2 = b := congrArg Prod.fst e
      omega
    · rw [if_neg h2] at h
      cases h
  · rw [if_neg h1] at h
    by_cases h2 : K t = 2 ∧ W t = 4
    · rw [if_pos h2] at h
      have e := Option.some.inj h
      have e1 : t + 1 = b := congrArg Prod.fst e
      omega
    · rw [if_neg h2] at h
      cases h
section LV
variable {K W : Nat → Int} {l t t1 t2 : Nat} {o : Int} {c ce : List Int} {r : Option (Nat × List Int)}
theorem l_stop (h : au_bn (K t) (W t) ≠ (l : Int)) : l_pe K W l o t c (some (t, c)) := by
  refine ⟨1, fun f N _ hN => ?_⟩
  cases N with
  | zero => omega
  | succ N => rw [lc_pr, if_neg h]
theorem l_lv (h1 : 1 ≤ l) (h7 : l ≤ 7) (hn : ¬ (l = 6 ∧ lc_cm K W t = true)) (h : l_ev K W (l + 1) o t (some (t1, c))) (hp : l_pe K W l o t1 c r) : l_ev K W l o t r := by
  obtain ⟨a, h⟩ := h
  obtain ⟨b, hp⟩ := hp
  refine ⟨a + b + 1, fun f hf => ?_⟩
  cases f with
  | zero => omega
  | succ f =>
    rw [lc_ps, if_neg (by omega), if_neg (by omega), if_neg (by rw [Bool.and_eq_true, decide_eq_true_eq]; exact hn), h f (by omega)]
    exact hp f f (by omega) (by omega)
/-- what stands alone, and no * behind it -/
theorem l_7 (h : l_ev K W 8 o t (some (t1, c))) (hb : au_bn (K t1) (W t1) ≠ 7) : l_ev K W 7 o t (some (t1, c)) := l_lv (by decide) (by decide) (by omega) h (l_stop hb)
theorem l_al7 {i : Nat} (h : lc_al K W i = true) : l_ev K W 7 o i (some (i + 1, lc_c (W i))) := by
  unfold lc_al at h
  rw [decide_eq_true_eq] at h
  refine l_7 ?_ h.2
  have h8 : l_ev K W 8 o i (lc_at K W false i) := l_8 (by unfold lc_uy; rw [decide_eq_false_iff_not]; omega) (by omega)
  rw [at_3 h.1] at h8
  exact h8
theorem l_cm_e (h : lc_cm K W t = true) : ∃ b x, lc_bs K W t = some (b, x) ∧ (K b = 5 ∧ (W b = 43 ∨ W b = 45)) ∧ lc_al K W (b + 1) = true ∧ (∀ o, l_ev K W 7 o t (some (b, x :: lc_s 9 0))) ∧ lc_at K W true t = some (b + 2, x :: lc_s 9 (lc_sg K W b)) := by
  obtain ⟨b, x, h1, h2, h3⟩ := lc_cm_at h
  have h4 := h2
  unfold lc_ad at h4
  rw [Bool.and_eq_true, decide_eq_true_eq] at h4
  refine ⟨b, x, h1, h4.1, h4.2, fun o => ?_, h3⟩
  obtain ⟨-, -, j3, ju, j40, j5, j6⟩ := lc_bs_lt (T := 0) h1
  refine l_7 ?_ ?_
  · have h8 : l_ev K W 8 o t (lc_at K W false t) := l_8 ju j40
    have e : lc_at K W false t = some (b, x :: lc_s 9 0) := by
      unfold lc_at
      rw [if_neg j3, if_neg j5, if_neg j6, h1]
      rfl
    rw [e] at h8
    exact h8
  · rw [bn_6.mpr h4.1]
    decide
theorem l_alone (h1 : 1 ≤ l) (h7 : l ≤ 7) (h : l_ev K W (l + 1) o t (some (t1, c))) (hb : au_bn (K t1) (W t1) ≠ (l : Int)) : l_ev K W l o t (some (t1, c)) := by
  refine l_lv h1 h7 (fun hn => ?_) h (l_stop hb)
  obtain ⟨b, x, -, k1, -, k2, -⟩ := l_cm_e hn.2
  obtain ⟨rfl, -⟩ := hn
  have e := l_ev_u h (k2 o)
  have e1 : t1 = b := congrArg Prod.fst (Option.some.inj e)
  subst e1
  exact hb (bn_6.mpr k1)
theorem l_none (h1 : 1 ≤ l) (h7 : l ≤ 7) (h : l_ev K W (l + 1) o t none) : l_ev K W l o t none := by
  have hn : ¬ (l = 6 ∧ lc_cm K W t = true) := by
    intro hn
    obtain ⟨b, x, -, -, -, k2, -⟩ := l_cm_e hn.2
    obtain ⟨rfl, -⟩ := hn
    have e := l_ev_u h (k2 o)
    cases e
  obtain ⟨a, h⟩ := h
  refine ⟨a + 1, fun f hf => ?_⟩
  cases f with
  | zero => omega
  | succ f =>
    rw [lc_ps, if_neg (by omega), if_neg (by omega), if_neg (by rw [Bool.and_eq_true, decide_eq_true_eq]; exact hn), h f (by omega)]
/-- a link's bytes -/
def l_tm (K W : Nat → Int) (l t : Nat) (ce : List Int) : List Int := if (decide (l = 6 ∧ W t = 43) && lc_al K W (t + 1)) = true then 35 :: lc_u 9 (W (t + 1)) else ce ++ [lc_op (K t) (W t)]
def l_px (K W : Nat → Int) (l : Nat) (o : Int) (t : Nat) (c : List Int) (r : Option (Nat × List Int)) : Prop := (l = 4 → r = some (t, c)) ∧ (l ≠ 4 → l_pe K W l o t c r)
theorem l_al2 (hh : (decide (l = 6 ∧ W t = 43) && lc_al K W (t + 1)) = true) (h : l_ev K W (l + 1) o (t + 1) r) : l = 6 ∧ r = some (t + 2, lc_c (W (t + 1))) := by
  rw [Bool.and_eq_true, decide_eq_true_eq] at hh
  obtain ⟨⟨rfl, -⟩, h2⟩ := hh
  exact ⟨rfl, l_ev_u h (l_al7 h2)⟩
theorem l_step (hl : au_bn (K t) (W t) = (l : Int)) (h : l_ev K W (l + 1) o (t + 1) (some (t2, ce))) (hp : l_px K W l o t2 (c ++ l_tm K W l t ce) r) : l_pe K W l o t c r := by
  have h0 := h
  obtain ⟨a, h⟩ := h
  by_cases hh : (decide (l = 6 ∧ W t = 43) && lc_al K W (t + 1)) = true
  · obtain ⟨e6, e⟩ := l_al2 hh h0
    have e1 : t2 = t + 2 := congrArg Prod.fst (Option.some.inj e)
    obtain ⟨b, hp⟩ := hp.2 (by omega)
    unfold l_tm at hp
    rw [if_pos hh, e1] at hp
    refine ⟨a + b + 1, fun f N hf hN => ?_⟩
    cases N with
    | zero => omega
    | succ N =>
      rw [lc_pr, if_pos hl, if_pos hh]
      exact hp f N (by omega) (by omega)
  · have et : l_tm K W l t ce = ce ++ [lc_op (K t) (W t)] := by unfold l_tm; rw [if_neg hh]
    rw [et] at hp
    by_cases h4 : l = 4
    · have hr := hp.1 h4
      refine ⟨a + 1, fun f N hf hN => ?_⟩
      cases N with
      | zero => omega
      | succ N =>
        rw [lc_pr, if_pos hl, if_neg hh, h f (by omega)]
        dsimp only
        rw [if_pos h4, hr]
    · obtain ⟨b, hp⟩ := hp.2 h4
      refine ⟨a + b + 1, fun f N hf hN => ?_⟩
      cases N with
      | zero => omega
      | succ N =>
        rw [lc_pr, if_pos hl, if_neg hh, h f (by omega)]
        dsimp only
        rw [if_neg h4]
        exact hp f N (by omega) (by omega)
theorem l_stepn (hl : au_bn (K t) (W t) = (l : Int)) (h : l_ev K W (l + 1) o (t + 1) none) : l_pe K W l o t c none := by
  have h0 := h
  obtain ⟨a, h⟩ := h
  by_cases hh : (decide (l = 6 ∧ W t = 43) && lc_al K W (t + 1)) = true
  · obtain ⟨e6, e⟩ := l_al2 hh h0
    cases e
  · refine ⟨a + 1, fun f N hf hN => ?_⟩
    cases N with
    | zero => omega
    | succ N => rw [lc_pr, if_pos hl, if_neg hh, h f (by omega)]
/-- the first two are one operation -/
theorem l_cmv {b : Nat} {x : Int} (h : lc_cm K W t = true) (hb : lc_bs K W t = some (b, x)) (hp : l_px K W 6 o (b + 2) (x :: lc_s 9 (lc_sg K W b)) r) : l_ev K W 6 o t r := by
  obtain ⟨b', x', h1, -, -, -, h2⟩ := l_cm_e h
  rw [hb] at h1
  cases h1
  obtain ⟨a, hp⟩ := hp.2 (by decide)
  refine ⟨a + 1, fun f hf => ?_⟩
  cases f with
  | zero => omega
  | succ f =>
    rw [lc_ps, if_neg (by decide), if_neg (by decide), if_pos (by rw [h]; rfl), h2]
    exact hp f f (by omega) (by omega)
end LV
/-! The root's kind. -/
section KD
variable {K W : Nat → Int} {t t2 : Nat} {F : Nat → Nat → Int32} {L : Nat → Nat → Int64} {c : Nat}
theorem p_kd_n (h5 : (F c 0).toInt ≠ 5) (h37 : (F c 0).toInt ≠ 37) (h11 : (F c 0).toInt ≠ 11) (hK : K t ≠ 3) (hb : lc_bs K W t = none) : p_kd K W t t2 F L c :=
  ⟨⟨fun h => absurd h h5, fun h => absurd h.1 hK⟩, fun h => absurd h.1 hK, ⟨fun h => (h.elim h37 h11).elim, fun ⟨x, hx⟩ => by rw [hb] at hx; cases hx⟩, fun x hx => by rw [hb] at hx; cases hx⟩
theorem p_kd_f (h5 : (F c 0).toInt ≠ 5) (h37 : (F c 0).toInt ≠ 37) (h11 : (F c 0).toInt ≠ 11) (ht : t + 3 ≤ t2) : p_kd K W t t2 F L c :=
  ⟨⟨fun h => absurd h h5, fun h => by omega⟩, fun h => by omega, ⟨fun h => (h.elim h37 h11).elim, fun ⟨x, hx⟩ => by have := (bs_le hx).1; omega⟩, fun x hx => by have := (bs_le hx).1; omega⟩
theorem p_kd_fr {F2 : Nat → Nat → Int32} {L2 : Nat → Nat → Int64} (h : p_kd K W t t2 F L c) (e1 : F2 c 0 = F c 0) (e2 : L2 c 1 = L c 1) : p_kd K W t t2 F2 L2 c := by
  unfold p_kd
  rw [e1, e2]
  exact h
/-- what stands alone -/
theorem p_at {R : Nat → Nat → Option Nat} {n n2 : Nat} {o : Int} (hk : (F c 0).toInt = t_ck (K t) (W t)) (kr : k_rg (K t) (W t)) (hc : t_ck (K t) (W t) = 5 ∨ t_ck (K t) (W t) = 11 ∨ t_ck (K t) (W t) = 12 ∨ t_ck (K t) (W t) = 13) (h3 : K t = 3 → (L c 1).toInt = W t ∧ 0 ≤ W t ∧ W t ≤ 999999999999999999) (h0 : 176 ≤ n) (h1 : n ≤ c) (h2 : c < n2) : ∃ code, l_ev K W 8 o t (some (t + 1, code)) ∧ n_is F L R n n2 c 0 code ∧ p_kd K W t (t + 1) F L c := by
  have ce := ck_e kr
  have hu : lc_uy (K t) (W t) = false := by
    cases hu : lc_uy (K t) (W t) with
    | false => rfl
    | true =>
      exfalso
      have := (ck_un kr).1.mp hu
      omega
  have h8 : l_ev K W 8 o t (lc_at K W false t) := l_8 hu (by omega)
  rcases hc with hc | hc | hc | hc
  · have hK : K t = 3 := by omega
    obtain ⟨w1, w2, w3⟩ := h3 hK
    rw [at_3 hK] at h8
    have hb : lc_bs K W t = none := bs_n (by omega) (by omega)
    refine ⟨_, h8, n_is_at h0 h1 h2 ?_ (Or.inl ⟨by omega, by rw [w1]⟩), ⟨fun _ => ⟨hK, rfl⟩, fun _ => by omega⟩, fun _ => w1, ⟨fun h => by omega, fun ⟨x, hx⟩ => by rw [hb] at hx; cases hx⟩, fun x hx => by rw [hb] at hx; cases hx⟩
    unfold n_rg
    rw [decide_eq_true_eq]
    refine ⟨fun _ => ?_, fun h => ?_, fun h => ?_⟩ <;> omega
  · have hK : K t = 2 ∧ W t = 4 := by omega
    have k11 : (F c 0).toInt = 11 := by omega
    rw [at_4 hK] at h8
    refine ⟨_, h8, n_is_at h0 h1 h2 ?_ (Or.inr (Or.inl ⟨Or.inl k11, by rw [k11]; rfl⟩)), ⟨fun h => by omega, fun h => by omega⟩, fun h => by omega, ⟨fun _ => ⟨145, bs_4 hK⟩, fun _ => Or.inr k11⟩, fun x hx p => ?_⟩
    · unfold n_rg
      rw [decide_eq_true_eq]
      refine ⟨fun h => ?_, fun h => ?_, fun h => ?_⟩ <;> omega
    · rw [bs_4 hK] at hx
      have e : (145 : Int) = x := congrArg Prod.snd (Option.some.inj hx)
      rw [k11, ← e]
      rfl
  · have hK : K t = 2 ∧ W t = 5 := by omega
    rw [at_5 hK] at h8
    refine ⟨_, h8, n_is_at h0 h1 h2 ?_ (Or.inr (Or.inr (Or.inl ⟨by omega, rfl⟩))), p_kd_n (by omega) (by omega) (by omega) (by omega) (bs_n (by omega) (by omega))⟩
    unfold n_rg
    rw [decide_eq_true_eq]
    refine ⟨fun h => ?_, fun h => ?_, fun h => ?_⟩ <;> omega
  · have hK : K t = 2 ∧ W t = 6 := by omega
    rw [at_6 hK] at h8
    refine ⟨_, h8, n_is_at h0 h1 h2 ?_ (Or.inr (Or.inr (Or.inr ⟨by omega, rfl⟩))), p_kd_n (by omega) (by omega) (by omega) (by omega) (bs_n (by omega) (by omega))⟩
    unfold n_rg
    rw [decide_eq_true_eq]
    refine ⟨fun h => ?_, fun h => ?_, fun h => ?_⟩ <;> omega
/-- % r -/
theorem p_rg {R : Nat → Nat → Option Nat} {n n2 : Nat} {o : Int} (hk : (F c 0).toInt = 37) (hK : K t = 5 ∧ W t = 37) (h3 : K (t + 1) = 3) (hw : (L c 1).toInt = W (t + 1)) (w0 : 0 ≤ W (t + 1)) (w31 : W (t + 1) ≤ 31) (h0 : 176 ≤ n) (h1 : n ≤ c) (h2 : c < n2) : ∃ code, l_ev K W 8 o t (some (t + 2, code)) ∧ n_is F L R n n2 c 0 code ∧ p_kd K W t (t + 2) F L c := by
  have h8 : l_ev K W 8 o t (lc_at K W false t) := l_8 (by unfold lc_uy; rw [decide_eq_false_iff_not]; omega) (by omega)
  rw [at_r hK, if_pos ⟨h3, w31⟩] at h8
  have hb : lc_bs K W t = some (t + 2, 112 + W (t + 1)) := by rw [bs_r hK, if_pos ⟨h3, w31⟩]
  refine ⟨_, h8, n_is_at h0 h1 h2 ?_ (Or.inr (Or.inl ⟨Or.inr hk, by rw [hk, hw]; rfl⟩)), ⟨fun h => by omega, fun h => by omega⟩, fun h => by omega, ⟨fun _ => ⟨_, hb⟩, fun _ => Or.inl hk⟩, fun x hx p => ?_⟩
  · unfold n_rg
    rw [decide_eq_true_eq]
    refine ⟨fun h => ?_, fun h => ?_, fun h => ?_⟩ <;> omega
  · rw [hb] at hx
    have e : 112 + W (t + 1) = x := congrArg Prod.snd (Option.some.inj hx)
    rw [hk, hw, ← e]
    rfl
end KD
