/-! THE CLASS'S TREES as its coder reads them: n_cd, by fuel. Mode 0 a node, 1 the rest of a chain from a link on, 2 a chain from its first on. None: too little fuel, a cell that is no node, no node where one must be, or too deep. -/
def o2 (g : List Int → List Int → List Int) : Option (List Int) → Option (List Int) → Option (List Int)
  | some a, some b => some (g a b)
  | _, _ => none
theorem o2_some {g : List Int → List Int → List Int} {x y : Option (List Int)} {z : List Int} (h : o2 g x y = some z) : ∃ a b, x = some a ∧ y = some b ∧ g a b = z := by
  cases x with
  | none => cases h
  | some a =>
    cases y with
    | none => cases h
    | some b => exact ⟨a, b, rfl, rfl, Option.some.inj h⟩
theorem om_some {g : List Int → List Int} {x : Option (List Int)} {z : List Int} (h : x.map g = some z) : ∃ a, x = some a ∧ g a = z := by
  cases x with
  | none => cases h
  | some a => exact ⟨a, rfl, Option.some.inj h⟩
def n_un (k w : Int) : List Int := if k = 6 then (if w = 8 then [6] else [148, w]) else if k = 14 then [155] else if k = 45 then [31] else if k = 126 then [32] else []
def n_op (k : Int) : Int := if k = 15 then 27 else if k = 18 then 41 else if k = 19 then 46 else if k = 20 then 44 else if k = 21 then 42 else if k = 22 then 36 else if k = 23 then 38 else if k = 24 then 37 else if k = 38 then 26 else if k = 42 then 30 else if k = 43 then 34 else if k = 45 then 28 else if k = 60 then 45 else if k = 62 then 43 else if k = 94 then 39 else if k = 124 then 33 else 29
def n_bs (k w p : Int) : List Int := (if k = 37 then 112 + w else 145) :: lc_s 9 p
def n_rg (k w : Int) : Bool := decide ((k = 5 → 0 ≤ w ∧ w ≤ 999999999999999999) ∧ (k = 37 → 0 ≤ w ∧ w ≤ 31) ∧ (k = 6 → 1 ≤ w ∧ w ≤ 8))
def n_sg (g w : Int) : Int := if g = 45 then -w else w
section NC
variable (FI : Nat → Nat → Int32) (FL : Nat → Nat → Int64) (FR : Nat → Nat → Option Nat)
/-- the plain term behind a first that is based -/
def n_nx (c : Nat) : Option Nat := if (FI c 0).toInt = 37 ∨ (FI c 0).toInt = 11 then (match FR c 6 with
  | none => none
  | some e => if 176 ≤ e ∧ (FI e 0).toInt = 5 ∧ ((FI e 2).toInt = 43 ∨ (FI e 2).toInt = 45) ∧ n_rg (FI e 0).toInt (FL e 1).toInt = true then some e else none) else none
/-- one step -/
def n_st (rec : Nat → Option Nat → Int → Option (List Int)) (m c : Nat) (d : Int) : Option (List Int) :=
  if c < 176 ∨ n_rg (FI c 0).toInt (FL c 1).toInt = false then none
  else if m = 0 then
    if 120 < d then none
    else if (FI c 0).toInt = 5 then some (lc_c (FL c 1).toInt)
    else if (FI c 0).toInt = 11 ∨ (FI c 0).toInt = 37 then some (n_bs (FI c 0).toInt (FL c 1).toInt 0)
    else if (FI c 0).toInt = 12 then some [156]
    else if (FI c 0).toInt = 13 then some [151]
    else if (FI c 0).toInt = 25 then (if 120 ≤ d then none else rec 2 (FR c 3) d)
    else if (FI c 0).toInt = 63 then o2 (fun a x => a ++ x) (rec 0 (FR c 3) (d + 1)) (o2 lc_ch (rec 0 (FR c 4) (d + 1)) (rec 0 (FR c 5) (d + 1)))
    else (rec 0 (FR c 3) (d + 1)).map (fun a => a ++ n_un (FI c 0).toInt (FL c 1).toInt)
  else if m = 1 then
    if (FI c 2).toInt = 43 ∧ (FI c 0).toInt = 5 then (rec 1 (FR c 6) d).map (fun r => 35 :: lc_u 9 (FL c 1).toInt ++ r)
    else o2 (fun a r => (a ++ [n_op (FI c 2).toInt]) ++ r) (rec 0 (some c) (d + 1)) (rec 1 (FR c 6) d)
  else match n_nx FI FL FR c with
    | some e => (rec 1 (FR e 6) d).map (fun r => n_bs (FI c 0).toInt (FL c 1).toInt (n_sg (FI e 2).toInt (FL e 1).toInt) ++ r)
    | none => o2 (fun a r => a ++ r) (rec 0 (some c) (d + 1)) (rec 1 (FR c 6) d)
def n_cd : Nat → Nat → Option Nat → Int → Option (List Int)
  | 0, _, _, _ => none
  | f + 1, m, o, d => match o with
    | none => (match m with
      | 1 => some []
      | _ => none)
    | some c => n_st FI FL FR (n_cd f) m c d
end NC
section ND
variable {FI : Nat → Nat → Int32} {FL : Nat → Nat → Int64} {FR : Nat → Nat → Option Nat}
theorem o2_mono {g : List Int → List Int → List Int} {x y x2 y2 : Option (List Int)} {z : List Int} (hx : ∀ a, x = some a → x2 = some a) (hy : ∀ a, y = some a → y2 = some a) (h : o2 g x y = some z) : o2 g x2 y2 = some z := by
  obtain ⟨a, b, h1, h2, h3⟩ := o2_some h
  rw [hx a h1, hy b h2, ← h3]
  rfl
theorem om_mono {g : List Int → List Int} {x x2 : Option (List Int)} {z : List Int} (hx : ∀ a, x = some a → x2 = some a) (h : x.map g = some z) : x2.map g = some z := by
  obtain ⟨a, h1, h3⟩ := om_some h
  rw [hx a h1, ← h3]
  rfl
theorem n_st_mono {rec rec2 : Nat → Option Nat → Int → Option (List Int)} (hr : ∀ m o d x, rec m o d = some x → rec2 m o d = some x) {m c : Nat} {d : Int} {x : List Int} (h : n_st FI FL FR rec m c d = some x) : n_st FI FL FR rec2 m c d = some x := by
  unfold n_st at h ⊢
  by_cases h0 : c < 176 ∨ n_rg (FI c 0).toInt (FL c 1).toInt = false
  · rw [if_pos h0] at h; cases h
  · rw [if_neg h0] at h ⊢
    by_cases h1 : m = 0
    · rw [if_pos h1] at h ⊢
      by_cases h2 : 120 < d
      · rw [if_pos h2] at h ⊢; exact h
      · rw [if_neg h2] at h ⊢
        by_cases h3 : (FI c 0).toInt = 5
        · rw [if_pos h3] at h ⊢; exact h
        · rw [if_neg h3] at h ⊢
          by_cases h4 : (FI c 0).toInt = 11 ∨ (FI c 0).toInt = 37
          · rw [if_pos h4] at h ⊢; exact h
          · rw [if_neg h4] at h ⊢
            by_cases h5 : (FI c 0).toInt = 12
            · rw [if_pos h5] at h ⊢; exact h
            · rw [if_neg h5] at h ⊢
              by_cases h6 : (FI c 0).toInt = 13
              · rw [if_pos h6] at h ⊢; exact h
              · rw [if_neg h6] at h ⊢
                by_cases h7 : (FI c 0).toInt = 25
                · rw [if_pos h7] at h ⊢
                  by_cases hq : 120 ≤ d
                  · rw [if_pos hq] at h; cases h
                  · rw [if_neg hq] at h ⊢; exact hr _ _ _ _ h
                · rw [if_neg h7] at h ⊢
                  by_cases h8 : (FI c 0).toInt = 63
                  · rw [if_pos h8] at h ⊢
                    exact o2_mono (fun a ha => hr _ _ _ _ ha) (fun a ha => o2_mono (fun b hb => hr _ _ _ _ hb) (fun b hb => hr _ _ _ _ hb) ha) h
                  · rw [if_neg h8] at h ⊢
                    exact om_mono (fun a ha => hr _ _ _ _ ha) h
    · rw [if_neg h1] at h ⊢
      by_cases h2 : m = 1
      · rw [if_pos h2] at h ⊢
        by_cases h3 : (FI c 2).toInt = 43 ∧ (FI c 0).toInt = 5
        · rw [if_pos h3] at h ⊢
          exact om_mono (fun a ha => hr _ _ _ _ ha) h
        · rw [if_neg h3] at h ⊢
          exact o2_mono (fun a ha => hr _ _ _ _ ha) (fun a ha => hr _ _ _ _ ha) h
      · rw [if_neg h2] at h ⊢
        cases e : n_nx FI FL FR c with
        | some e2 =>
          rw [e] at h
          exact om_mono (fun a ha => hr _ _ _ _ ha) h
        | none =>
          rw [e] at h
          exact o2_mono (fun a ha => hr _ _ _ _ ha) (fun a ha => hr _ _ _ _ ha) h
theorem n_cd_mono1 : ∀ (f m : Nat) (o : Option Nat) (d : Int) (x : List Int), n_cd FI FL FR f m o d = some x → n_cd FI FL FR (f + 1) m o d = some x := by
  intro f
  induction f with
  | zero => intro m o d x h; cases h
  | succ f ih =>
    intro m o d x h
    cases o with
    | none => exact h
    | some c => exact n_st_mono ih h
theorem n_cd_mono {f f2 m : Nat} {o : Option Nat} {d : Int} {x : List Int} (hf : f ≤ f2) (h : n_cd FI FL FR f m o d = some x) : n_cd FI FL FR f2 m o d = some x := by
  obtain ⟨k, rfl⟩ := Nat.exists_eq_add_of_le hf
  induction k with
  | zero => exact h
  | succ k ih => exact n_cd_mono1 _ _ _ _ _ (ih (Nat.le_add_right _ _))
theorem n_cd_ok {f m c : Nat} {d : Int} {x : List Int} (h : n_cd FI FL FR f m (some c) d = some x) : 176 ≤ c ∧ n_rg (FI c 0).toInt (FL c 1).toInt = true := by
  cases f with
  | zero => cases h
  | succ f =>
    have h2 : n_st FI FL FR (n_cd FI FL FR f) m c d = some x := h
    unfold n_st at h2
    by_cases h0 : c < 176 ∨ n_rg (FI c 0).toInt (FL c 1).toInt = false
    · rw [if_pos h0] at h2; cases h2
    · refine ⟨by omega, ?_⟩
      cases e : n_rg (FI c 0).toInt (FL c 1).toInt with
      | true => rfl
      | false => exact absurd (Or.inr e) h0
end ND
/-! Which cells a tree lies in, by meaning: whatever happens elsewhere, and to the sign and the link of its root, it codes to the same bytes. -/
def n_ag (lo hi x c : Nat) (FI : Nat → Nat → Int32) (FL : Nat → Nat → Int64) (FR : Nat → Nat → Option Nat) (F2 : Nat → Nat → Int32) (L2 : Nat → Nat → Int64) (R2 : Nat → Nat → Option Nat) : Prop := (∀ q k, lo ≤ q → q < hi → q ≠ x → ¬ (q = c ∧ k = 2) → F2 q k = FI q k) ∧ (∀ q k, lo ≤ q → q < hi → q ≠ x → L2 q k = FL q k) ∧ (∀ q k, lo ≤ q → q < hi → q ≠ x → ¬ (q = c ∧ k = 6) → R2 q k = FR q k)
def n_is (FI : Nat → Nat → Int32) (FL : Nat → Nat → Int64) (FR : Nat → Nat → Option Nat) (lo hi c H : Nat) (code : List Int) : Prop := 176 ≤ lo ∧ lo ≤ c ∧ c < hi ∧ ∀ F2 L2 R2, n_ag lo hi 0 c FI FL FR F2 L2 R2 → ∀ d : Int, d + H ≤ 120 → ∃ f, n_cd F2 L2 R2 f 0 (some c) d = some code
section NI
variable {FI F2 F3 : Nat → Nat → Int32} {FL L2 L3 : Nat → Nat → Int64} {FR R2 R3 : Nat → Nat → Option Nat} {lo hi c H : Nat} {code : List Int}
theorem n_ag_t {x : Nat} (h1 : n_ag lo hi x c FI FL FR F2 L2 R2) (h2 : n_ag lo hi x c F2 L2 R2 F3 L3 R3) : n_ag lo hi x c FI FL FR F3 L3 R3 :=
  ⟨fun q k a b e n => (h2.1 q k a b e n).trans (h1.1 q k a b e n), fun q k a b e => (h2.2.1 q k a b e).trans (h1.2.1 q k a b e), fun q k a b e n => (h2.2.2 q k a b e n).trans (h1.2.2 q k a b e n)⟩
theorem n_is_fr (h : n_is FI FL FR lo hi c H code) (ha : n_ag lo hi 0 c FI FL FR F2 L2 R2) : n_is F2 L2 R2 lo hi c H code :=
  ⟨h.1, h.2.1, h.2.2.1, fun F3 L3 R3 h3 d hd => h.2.2.2 F3 L3 R3 (n_ag_t ha h3) d hd⟩
theorem n_is_w {lo2 hi2 H2 : Nat} (h : n_is FI FL FR lo hi c H code) (h0 : 176 ≤ lo2) (h1 : lo2 ≤ lo) (h2 : hi ≤ hi2) (h3 : H ≤ H2) : n_is FI FL FR lo2 hi2 c H2 code :=
  ⟨h0, by have := h.2.1; omega, by have := h.2.2.1; omega, fun F3 L3 R3 h4 d hd => h.2.2.2 F3 L3 R3 ⟨fun q k a b e n => h4.1 q k (by omega) (by omega) e n, fun q k a b e => h4.2.1 q k (by omega) (by omega) e, fun q k a b e n => h4.2.2 q k (by omega) (by omega) e n⟩ d (by omega)⟩
/-- the root's own fields, in every heap that agrees -/
theorem n_ag_c (h0 : 176 ≤ lo) (h1 : lo ≤ c) (h2 : c < hi) (ha : n_ag lo hi 0 c FI FL FR F2 L2 R2) : F2 c 0 = FI c 0 ∧ L2 c 1 = FL c 1 ∧ R2 c 3 = FR c 3 ∧ R2 c 4 = FR c 4 ∧ R2 c 5 = FR c 5 :=
  ⟨ha.1 c 0 h1 h2 (by omega) (by omega), ha.2.1 c 1 h1 h2 (by omega), ha.2.2 c 3 h1 h2 (by omega) (by omega), ha.2.2 c 4 h1 h2 (by omega) (by omega), ha.2.2 c 5 h1 h2 (by omega) (by omega)⟩
/-- what lies in a part of the cells, the root not among them -/
theorem n_ag_s {lo2 hi2 c2 : Nat} (h1 : lo ≤ lo2) (h2 : hi2 ≤ hi) (h3 : ¬ (lo2 ≤ c ∧ c < hi2)) (ha : n_ag lo hi 0 c FI FL FR F2 L2 R2) : n_ag lo2 hi2 0 c2 FI FL FR F2 L2 R2 :=
  ⟨fun q k a b e n => ha.1 q k (by omega) (by omega) e (by omega), fun q k a b e => ha.2.1 q k (by omega) (by omega) e, fun q k a b e n => ha.2.2 q k (by omega) (by omega) e (by omega)⟩
theorem n_is_at (h0 : 176 ≤ lo) (h1 : lo ≤ c) (h2 : c < hi) (hr : n_rg (FI c 0).toInt (FL c 1).toInt = true) (hk : ((FI c 0).toInt = 5 ∧ code = lc_c (FL c 1).toInt) ∨ (((FI c 0).toInt = 11 ∨ (FI c 0).toInt = 37) ∧ code = n_bs (FI c 0).toInt (FL c 1).toInt 0) ∨ ((FI c 0).toInt = 12 ∧ code = [156]) ∨ ((FI c 0).toInt = 13 ∧ code = [151])) : n_is FI FL FR lo hi c 0 code := by
  refine ⟨h0, h1, h2, fun F2 L2 R2 ha d hd => ⟨1, ?_⟩⟩
  obtain ⟨e0, e1, -⟩ := n_ag_c h0 h1 h2 ha
  show n_st F2 L2 R2 _ 0 c d = some code
  unfold n_st
  rw [e0, e1, if_neg (by rw [hr]; simp; omega), if_pos rfl, if_neg (by omega)]
  rcases hk with ⟨k1, rfl⟩ | ⟨k1, rfl⟩ | ⟨k1, rfl⟩ | ⟨k1, rfl⟩
  · rw [if_pos k1]
  · rw [if_neg (by omega), if_pos k1]
  · rw [if_neg (by omega), if_neg (by omega), if_pos k1]
  · rw [if_neg (by omega), if_neg (by omega), if_neg (by omega), if_pos k1]
theorem n_is_un {lo2 hi2 c2 : Nat} {code2 : List Int} (h0 : 176 ≤ lo) (h1 : lo ≤ c) (h2 : c < hi) (hr : n_rg (FI c 0).toInt (FL c 1).toInt = true) (hk : (FI c 0).toInt = 6 ∨ (FI c 0).toInt = 14 ∨ (FI c 0).toInt = 45 ∨ (FI c 0).toInt = 126 ∨ (FI c 0).toInt = 40) (h3 : FR c 3 = some c2) (hc : n_is FI FL FR lo2 hi2 c2 H code2) (i1 : lo ≤ lo2) (i2 : hi2 ≤ hi) (i3 : ¬ (lo2 ≤ c ∧ c < hi2)) : n_is FI FL FR lo hi c (H + 1) (code2 ++ n_un (FI c 0).toInt (FL c 1).toInt) := by
  refine ⟨h0, h1, h2, fun F2 L2 R2 ha d hd => ?_⟩
  obtain ⟨e0, e1, e3, -⟩ := n_ag_c h0 h1 h2 ha
  obtain ⟨f, hf⟩ := hc.2.2.2 F2 L2 R2 (n_ag_s i1 i2 i3 ha) (d + 1) (by omega)
  refine ⟨f + 1, ?_⟩
  show n_st F2 L2 R2 _ 0 c d = some _
  unfold n_st
  rw [e0, e1, e3, h3, if_neg (by rw [hr]; simp; omega), if_pos rfl, if_neg (by omega), if_neg (by omega), if_neg (by omega), if_neg (by omega), if_neg (by omega), if_neg (by omega), if_neg (by omega), hf]
  rfl
theorem n_is_ch {lo1 hi1 c1 lo2 hi2 c2 lo3 hi3 c3 : Nat} {code1 code2 code3 : List Int} (h0 : 176 ≤ lo) (h1 : lo ≤ c) (h2 : c < hi) (hk : (FI c 0).toInt = 63) (e1 : FR c 3 = some c1) (e2 : FR c 4 = some c2) (e3 : FR c 5 = some c3) (q1 : n_is FI FL FR lo1 hi1 c1 H code1) (q2 : n_is FI FL FR lo2 hi2 c2 H code2) (q3 : n_is FI FL FR lo3 hi3 c3 H code3) (i1 : lo ≤ lo1 ∧ hi1 ≤ hi ∧ ¬ (lo1 ≤ c ∧ c < hi1)) (i2 : lo ≤ lo2 ∧ hi2 ≤ hi ∧ ¬ (lo2 ≤ c ∧ c < hi2)) (i3 : lo ≤ lo3 ∧ hi3 ≤ hi ∧ ¬ (lo3 ≤ c ∧ c < hi3)) : n_is FI FL FR lo hi c (H + 1) (code1 ++ lc_ch code2 code3) := by
  refine ⟨h0, h1, h2, fun F2 L2 R2 ha d hd => ?_⟩
  obtain ⟨a0, a1, a3, a4, a5⟩ := n_ag_c h0 h1 h2 ha
  obtain ⟨f1, hf1⟩ := q1.2.2.2 F2 L2 R2 (n_ag_s i1.1 i1.2.1 i1.2.2 ha) (d + 1) (by omega)
  obtain ⟨f2, hf2⟩ := q2.2.2.2 F2 L2 R2 (n_ag_s i2.1 i2.2.1 i2.2.2 ha) (d + 1) (by omega)
  obtain ⟨f3, hf3⟩ := q3.2.2.2 F2 L2 R2 (n_ag_s i3.1 i3.2.1 i3.2.2 ha) (d + 1) (by omega)
  have hr : n_rg (FI c 0).toInt (FL c 1).toInt = true := by unfold n_rg; rw [hk]; simp
  refine ⟨f1 + f2 + f3 + 1, ?_⟩
  show n_st F2 L2 R2 _ 0 c d = some _
  unfold n_st
  rw [a0, a1, a3, a4, a5, e1, e2, e3, if_neg (by rw [hr]; simp; omega), if_pos rfl, if_neg (by omega), if_neg (by omega), if_neg (by omega), if_neg (by omega), if_neg (by omega), if_neg (by omega), if_pos hk, n_cd_mono (by omega) hf1, n_cd_mono (by omega) hf2, n_cd_mono (by omega) hf3]
  rfl
/-- one more behind the others of a chain -/
def n_tm (FI : Nat → Nat → Int32) (FL : Nat → Nat → Int64) (e : Nat) (ce : List Int) : List Int := if (FI e 2).toInt = 43 ∧ (FI e 0).toInt = 5 then 35 :: lc_u 9 (FL e 1).toInt else ce ++ [n_op (FI e 2).toInt]
/-- a chain under way: x the chain's own node, a its first, l its last -/
def n_cw (FI : Nat → Nat → Int32) (FL : Nat → Nat → Int64) (FR : Nat → Nat → Option Nat) (lo hi x a l H : Nat) (code : List Int) : Prop := 176 ≤ lo ∧ lo ≤ l ∧ l < hi ∧ l ≠ x ∧ ∀ F2 L2 R2, ((∀ q k, lo ≤ q → q < hi → q ≠ x → F2 q k = FI q k) ∧ (∀ q k, lo ≤ q → q < hi → q ≠ x → L2 q k = FL q k) ∧ (∀ q k, lo ≤ q → q < hi → q ≠ x → ¬ (q = l ∧ k = 6) → R2 q k = FR q k)) → ∀ d : Int, d + 1 + H ≤ 120 → ∀ r f, n_cd F2 L2 R2 f 1 (R2 l 6) d = some r → ∃ f2, n_cd F2 L2 R2 f2 2 (some a) d = some (code ++ r)
/-- a rest of one and what is behind it -/
theorem n_cd_1 {f f2 e : Nat} {d : Int} {ce r : List Int} (h : n_cd FI FL FR f 0 (some e) (d + 1) = some ce) (h2 : n_cd FI FL FR f2 1 (FR e 6) d = some r) : n_cd FI FL FR (f + f2 + 1) 1 (some e) d = some (n_tm FI FL e ce ++ r) := by
  have ok := n_cd_ok h
  show n_st FI FL FR _ 1 e d = some _
  unfold n_st n_tm
  rw [if_neg (by rw [ok.2]; simp; omega), if_neg (by decide), if_pos rfl]
  by_cases h3 : (FI e 2).toInt = 43 ∧ (FI e 0).toInt = 5
  · rw [if_pos h3, if_pos h3, n_cd_mono (by omega) h2]
    rfl
  · rw [if_neg h3, if_neg h3, n_cd_mono (by omega) h, n_cd_mono (by omega) h2]
    rfl
/-- the first two of a chain -/
theorem n_cw_1 {x lo1 hi1 a lo2 hi2 e : Nat} {ca ce : List Int} (q1 : n_is FI FL FR lo1 hi1 a H ca) (q2 : n_is FI FL FR lo2 hi2 e H ce) (hl : FR a 6 = some e) (i1 : lo ≤ lo1) (i2 : hi1 ≤ lo2) (i3 : hi2 ≤ hi) (h0 : 176 ≤ lo) (hx : ¬ (lo1 ≤ x ∧ x < hi1) ∧ ¬ (lo2 ≤ x ∧ x < hi2)) : n_cw FI FL FR lo hi x a e H (if ((FI a 0).toInt = 37 ∨ (FI a 0).toInt = 11) ∧ (FI e 0).toInt = 5 ∧ ((FI e 2).toInt = 43 ∨ (FI e 2).toInt = 45) then n_bs (FI a 0).toInt (FL a 1).toInt (n_sg (FI e 2).toInt (FL e 1).toInt) else ca ++ n_tm FI FL e ce) := by
  have b1 := q1.2.1
  have b2 := q1.2.2.1
  have b3 := q2.2.1
  have b4 := q2.2.2.1
  refine ⟨h0, by omega, by omega, by omega, fun F2 L2 R2 ha d hd r f hr => ?_⟩
  obtain ⟨f1, hf1⟩ := q1.2.2.2 F2 L2 R2 ⟨fun q k g1 g2 _ _ => ha.1 q k (by omega) (by omega) (by omega), fun q k g1 g2 _ => ha.2.1 q k (by omega) (by omega) (by omega), fun q k g1 g2 _ _ => ha.2.2 q k (by omega) (by omega) (by omega) (by omega)⟩ (d + 1) (by omega)
  obtain ⟨f2, hf2⟩ := q2.2.2.2 F2 L2 R2 ⟨fun q k g1 g2 _ _ => ha.1 q k (by omega) (by omega) (by omega), fun q k g1 g2 _ => ha.2.1 q k (by omega) (by omega) (by omega), fun q k g1 g2 _ g4 => ha.2.2 q k (by omega) (by omega) (by omega) g4⟩ (d + 1) (by omega)
  have ea0 : F2 a 0 = FI a 0 := ha.1 a 0 (by omega) (by omega) (by omega)
  have ea1 : L2 a 1 = FL a 1 := ha.2.1 a 1 (by omega) (by omega) (by omega)
  have ea6 : R2 a 6 = some e := (ha.2.2 a 6 (by omega) (by omega) (by omega) (by omega)).trans hl
  have ee0 : F2 e 0 = FI e 0 := ha.1 e 0 (by omega) (by omega) (by omega)
  have ee2 : F2 e 2 = FI e 2 := ha.1 e 2 (by omega) (by omega) (by omega)
  have ee1 : L2 e 1 = FL e 1 := ha.2.1 e 1 (by omega) (by omega) (by omega)
  have oka := n_cd_ok hf1
  have oke := n_cd_ok hf2
  have g0 : ¬ (a < 176 ∨ n_rg (F2 a 0).toInt (L2 a 1).toInt = false) := by rw [oka.2]; simp; omega
  by_cases hcm : ((FI a 0).toInt = 37 ∨ (FI a 0).toInt = 11) ∧ (FI e 0).toInt = 5 ∧ ((FI e 2).toInt = 43 ∨ (FI e 2).toInt = 45)
  · rw [if_pos hcm]
    have hn : n_nx F2 L2 R2 a = some e := by
      unfold n_nx
      rw [ea0, if_pos hcm.1, ea6]
      dsimp only
      rw [if_pos ⟨oke.1, by rw [ee0]; exact hcm.2.1, by rw [ee2]; exact hcm.2.2, oke.2⟩]
    refine ⟨f + 1, ?_⟩
    show n_st F2 L2 R2 _ 2 a d = some _
    unfold n_st
    rw [if_neg g0, if_neg (by decide), if_neg (by decide), hn]
    dsimp only
    rw [hr, ea0, ea1, ee2, ee1]
    rfl
  · rw [if_neg hcm]
    have hn : n_nx F2 L2 R2 a = none := by
      unfold n_nx
      by_cases k1 : (FI a 0).toInt = 37 ∨ (FI a 0).toInt = 11
      · rw [ea0, if_pos k1, ea6]
        dsimp only
        rw [if_neg]
        rw [ee0, ee2]
        exact fun h => hcm ⟨k1, h.2.1, h.2.2.1⟩
      · rw [ea0, if_neg k1]
    have h1 := n_cd_1 hf2 hr
    refine ⟨f1 + (f2 + f + 1) + 1, ?_⟩
    show n_st F2 L2 R2 _ 2 a d = some _
    unfold n_st
    rw [if_neg g0, if_neg (by decide), if_neg (by decide), hn]
    dsimp only
    rw [n_cd_mono (by omega) hf1, ea6, n_cd_mono (by omega) h1]
    have et : n_tm F2 L2 e ce = n_tm FI FL e ce := by unfold n_tm; rw [ee0, ee1, ee2]
    rw [et, List.append_assoc]
    rfl
/-- one more -/
theorem n_cw_s {x a l lo2 hi2 e : Nat} {ce : List Int} (q1 : n_cw FI FL FR lo hi x a l H code) (q2 : n_is FI FL FR lo2 hi2 e H ce) (hl : FR l 6 = some e) (i2 : hi ≤ lo2) (hx : x < lo2) : n_cw FI FL FR lo hi2 x a e H (code ++ n_tm FI FL e ce) := by
  have b3 := q2.2.1
  have b4 := q2.2.2.1
  have b1 := q1.2.1
  have b2 := q1.2.2.1
  refine ⟨q1.1, by omega, by omega, by omega, fun F2 L2 R2 ha d hd r f hr => ?_⟩
  obtain ⟨f2, hf2⟩ := q2.2.2.2 F2 L2 R2 ⟨fun q k g1 g2 _ _ => ha.1 q k (by omega) (by omega) (by omega), fun q k g1 g2 _ => ha.2.1 q k (by omega) (by omega) (by omega), fun q k g1 g2 _ g4 => ha.2.2 q k (by omega) (by omega) (by omega) g4⟩ (d + 1) (by omega)
  have el : R2 l 6 = some e := (ha.2.2 l 6 (by omega) (by omega) q1.2.2.2.1 (by omega)).trans hl
  have ee0 : F2 e 0 = FI e 0 := ha.1 e 0 (by omega) (by omega) (by omega)
  have ee2 : F2 e 2 = FI e 2 := ha.1 e 2 (by omega) (by omega) (by omega)
  have ee1 : L2 e 1 = FL e 1 := ha.2.1 e 1 (by omega) (by omega) (by omega)
  have et : n_tm F2 L2 e ce = n_tm FI FL e ce := by unfold n_tm; rw [ee0, ee1, ee2]
  have h1 := n_cd_1 hf2 hr
  rw [et] at h1
  obtain ⟨f3, h3⟩ := q1.2.2.2.2 F2 L2 R2 ⟨fun q k g1 g2 g3 => ha.1 q k g1 (by omega) g3, fun q k g1 g2 g3 => ha.2.1 q k g1 (by omega) g3, fun q k g1 g2 g3 g4 => ha.2.2 q k g1 (by omega) g3 (by omega)⟩ d hd _ _ (by rw [el]; exact h1)
  exact ⟨f3, by rw [List.append_assoc]; exact h3⟩
/-- what keeps a chain under way -/
theorem n_cw_fr {x a l : Nat} (q : n_cw FI FL FR lo hi x a l H code) (ha : (∀ q k, lo ≤ q → q < hi → q ≠ x → F2 q k = FI q k) ∧ (∀ q k, lo ≤ q → q < hi → q ≠ x → L2 q k = FL q k) ∧ (∀ q k, lo ≤ q → q < hi → q ≠ x → ¬ (q = l ∧ k = 6) → R2 q k = FR q k)) : n_cw F2 L2 R2 lo hi x a l H code :=
  ⟨q.1, q.2.1, q.2.2.1, q.2.2.2.1, fun F3 L3 R3 h3 d hd r f hr => q.2.2.2.2 F3 L3 R3 ⟨fun p k g1 g2 g3 => (h3.1 p k g1 g2 g3).trans (ha.1 p k g1 g2 g3), fun p k g1 g2 g3 => (h3.2.1 p k g1 g2 g3).trans (ha.2.1 p k g1 g2 g3), fun p k g1 g2 g3 g4 => (h3.2.2 p k g1 g2 g3 g4).trans (ha.2.2 p k g1 g2 g3 g4)⟩ d hd r f hr⟩
/-- the chain at its end -/
theorem n_is_cw {x a l : Nat} (q : n_cw FI FL FR lo hi x a l H code) (h1 : lo ≤ x) (h2 : x < hi) (hk : (FI x 0).toInt = 25) (h3 : FR x 3 = some a) (h6 : FR l 6 = none) : n_is FI FL FR lo hi x (H + 1) code := by
  refine ⟨q.1, h1, h2, fun F2 L2 R2 ha d hd => ?_⟩
  obtain ⟨a0, a1, a3, -⟩ := n_ag_c q.1 h1 h2 ha
  have hl : R2 l 6 = none := (ha.2.2 l 6 q.2.1 q.2.2.1 (by have := q.1; have := q.2.1; omega) (by intro h; exact q.2.2.2.1 h.1)).trans h6
  have hq := q.1
  obtain ⟨f, hf⟩ := q.2.2.2.2 F2 L2 R2 ⟨fun p k g1 g2 g3 => ha.1 p k g1 g2 (by omega) (by omega), fun p k g1 g2 g3 => ha.2.1 p k g1 g2 (by omega), fun p k g1 g2 g3 g4 => ha.2.2 p k g1 g2 (by omega) (by omega)⟩ d (by omega) [] 1 (by rw [hl]; rfl)
  have hr : n_rg (FI x 0).toInt (FL x 1).toInt = true := by unfold n_rg; rw [hk]; simp
  refine ⟨f + 1, ?_⟩
  show n_st F2 L2 R2 _ 0 x d = some _
  unfold n_st
  rw [a0, a1, a3, h3, if_neg (by rw [hr]; simp; omega), if_pos rfl, if_neg (by omega), if_neg (by omega), if_neg (by omega), if_neg (by omega), if_neg (by omega), if_pos hk, if_neg (by omega), hf, List.append_nil]
end NI
