section
/-! THE LANGUAGE compiled: the bytes of an expression by its tokens (K kinds, W worths, as the reference counts them), from the left, by levels: 0 a choice, 1 .. 7 the signs between two by how they bind, 8 what stands alone. -/
def lc_by (v : Int) : Nat → List Int
  | 0 => []
  | n + 1 => v % 256 :: lc_by (v / 256) n
def lc_u : Nat → Int → List Int
  | 0, v => [v]
  | n + 1, v => if 127 < v then (v % 128 + 128) :: lc_u n (v / 128) else [v]
def lc_s : Nat → Int → List Int
  | 0, v => [v % 128]
  | n + 1, v => if v < -64 ∨ 63 < v then (v % 128 + 128) :: lc_s n (v / 128) else [v % 128]
def lc_c (v : Int) : List Int :=
  if v ≤ 31 then [48 + v] else if v ≤ 255 then 8 :: lc_by v 1 else if v ≤ 65535 then 10 :: lc_by v 2 else if v ≤ 4294967295 then 12 :: lc_by v 4 else 14 :: lc_by v 8
def lc_un (k w : Int) : List Int := if k = 2 then [155] else if k = 4 then (if w = 8 then [6] else [148, w]) else if w = 45 then [31] else [32]
def lc_op (k w : Int) : Int :=
  if k = 2 then (if w = 8 then 27 else 29) else
  if w = 42 then 30 else if w = 43 then 34 else if w = 45 then 28 else if w = 261 then 36 else if w = 262 then 38 else if w = 263 then 37 else
  if w = 257 then 41 else if w = 258 then 46 else if w = 60 then 45 else if w = 259 then 44 else if w = 62 then 43 else if w = 260 then 42 else
  if w = 38 then 26 else if w = 94 then 39 else 33
def lc_ch (c2 c3 : List Int) : List Int := 40 :: (lc_by (c3.length + 3) 2 ++ (c3 ++ 47 :: (lc_by c2.length 2 ++ c2)))
/-- a NUMBER alone at i -/
def lc_al (K W : Nat → Int) (i : Nat) : Bool := decide (K i = 3 ∧ au_bn (K (i + 1)) (W (i + 1)) ≠ 7)
/-- + or - and a NUMBER alone from b on -/
def lc_ad (K W : Nat → Int) (b : Nat) : Bool := decide (K b = 5 ∧ (W b = 43 ∨ W b = 45)) && lc_al K W (b + 1)
/-- % r or fb at t: where it ends, its first byte -/
def lc_bs (K W : Nat → Int) (t : Nat) : Option (Nat × Int) :=
  if K t = 5 ∧ W t = 37 then (if K (t + 1) = 3 ∧ W (t + 1) ≤ 31 then some (t + 2, 112 + W (t + 1)) else none) else if K t = 2 ∧ W t = 4 then some (t + 1, 145) else none
def lc_sg (K W : Nat → Int) (b : Nat) : Int := if W b = 43 then W (b + 1) else - W (b + 1)
/-- what stands alone: a number, % r, fb, cfa, obj; with y also the number behind % r and fb -/
def lc_at (K W : Nat → Int) (y : Bool) (t : Nat) : Option (Nat × List Int) :=
  if K t = 3 then some (t + 1, lc_c (W t)) else
  if K t = 2 ∧ W t = 5 then some (t + 1, [156]) else
  if K t = 2 ∧ W t = 6 then some (t + 1, [151]) else
  match lc_bs K W t with
  | none => none
  | some (b, x) => if (y && lc_ad K W b) = true then some (b + 2, x :: lc_s 9 (lc_sg K W b)) else some (b, x :: lc_s 9 0)
def lc_cm (K W : Nat → Int) (t : Nat) : Bool := match lc_bs K W t with
  | none => false
  | some (b, _) => lc_ad K W b
def lc_uy (k w : Int) : Bool := decide (k = 4 ∨ (k = 5 ∧ (w = 45 ∨ w = 126)) ∨ (k = 2 ∧ w = 7))
def lc_pr (sub : Nat → Option (Nat × List Int)) (K W : Nat → Int) (l : Nat) : Nat → Nat → List Int → Option (Nat × List Int)
  | 0, _, _ => none
  | n + 1, t, c =>
    if au_bn (K t) (W t) = (l : Int) then
      if (decide (l = 6 ∧ W t = 43) && lc_al K W (t + 1)) = true then lc_pr sub K W l n (t + 2) (c ++ 35 :: lc_u 9 (W (t + 1)))
      else match sub (t + 1) with
        | none => none
        | some (t1, c1) => if l = 4 then some (t1, c ++ (c1 ++ [lc_op (K t) (W t)])) else lc_pr sub K W l n t1 (c ++ (c1 ++ [lc_op (K t) (W t)]))
    else some (t, c)
def lc_ps (K W : Nat → Int) : Nat → Nat → Int → Nat → Option (Nat × List Int)
  | 0, _, _, _ => none
  | f + 1, l, o, t =>
    if l = 0 then
      match lc_ps K W f 1 o t with
      | none => none
      | some (t1, c1) =>
        if K t1 = 5 ∧ W t1 = 63 then
          if 12 ≤ o then none else
          match lc_ps K W f 0 (o + 1) (t1 + 1) with
          | none => none
          | some (t2, c2) =>
            if K t2 = 5 ∧ W t2 = 58 then
              match lc_ps K W f 0 (o + 1) (t2 + 1) with
              | none => none
              | some (t3, c3) => some (t3, c1 ++ lc_ch c2 c3)
            else none
        else some (t1, c1)
    else if l = 8 then
      if lc_uy (K t) (W t) = true then
        if 12 ≤ o then none else
        match lc_ps K W f 8 (o + 1) (t + 1) with
        | none => none
        | some (t1, c1) => some (t1, c1 ++ lc_un (K t) (W t))
      else if K t = 5 ∧ W t = 40 then
        if 12 ≤ o then none else
        match lc_ps K W f 0 (o + 1) (t + 1) with
        | none => none
        | some (t1, c1) => if K t1 = 5 ∧ W t1 = 41 then some (t1 + 1, c1) else none
      else lc_at K W false t
    else
      match (if (decide (l = 6) && lc_cm K W t) = true then lc_at K W true t else lc_ps K W f (l + 1) o t) with
      | none => none
      | some (t1, c1) => lc_pr (fun t' => lc_ps K W f (l + 1) o t') K W l f t1 c1
/-! The same by the reference's walk: the operators that wait (how they bind, what they write, where a choice's parts begin), what is open, the bytes. -/
abbrev f_E : Type := Int × List Int × Nat × Nat
abbrev f_St : Type := Nat × Bool × List f_E × Int × List Int
def f_top (S : List f_E) : Int := match S with
  | [] => -11
  | e :: _ => e.1
def f_pop (b : Int) : List f_E → List Int → List f_E × List Int
  | [], B => ([], B)
  | e :: S, B => if b ≤ e.1 then f_pop b S (B ++ e.2.1) else (e :: S, B)
def f_fin : List f_E → Int → List Int → List f_E × Int × List Int
  | [], o, B => ([], o, B)
  | e :: S, o, B => if e.1 = 9 then f_fin S (o - 1) (B ++ e.2.1) else (e :: S, o, B)
def f_turn (a m : Nat) (B : List Int) : List Int :=
  B.take a ++ (lc_by (((B.length - m : Nat) : Int) + 3) 2 ++ (B.drop m ++ 47 :: (lc_by ((m - a - 2 : Nat) : Int) 2 ++ (B.drop (a + 2)).take (m - a - 2))))
def f_all : List f_E → Int → List Int → List f_E × Int × List Int
  | [], o, B => ([], o, B)
  | e :: S, o, B => if 1 ≤ e.1 then f_all S o (B ++ e.2.1) else if e.1 = -3 then f_all S (o - 1) (f_turn e.2.2.1 e.2.2.2 B) else (e :: S, o, B)
def f_opd (K W : Nat → Int) (t : Nat) (S : List f_E) (o : Int) (B : List Int) : Option f_St :=
  if lc_uy (K t) (W t) = true then (if 12 ≤ o then none else some (t + 1, true, (9, lc_un (K t) (W t), 0, 0) :: S, o + 1, B)) else
  if K t = 5 ∧ W t = 40 then (if 12 ≤ o then none else some (t + 1, true, (-1, [], 0, 0) :: S, o + 1, B)) else
  match lc_at K W (decide (f_top S < 6)) t with
  | none => none
  | some (t1, c) => some (t1, false, f_fin S o (B ++ c))
def f_end (K W : Nat → Int) (t : Nat) : List f_E × Int × List Int → Option (f_St ⊕ (Nat × Int × List Int))
  | ([], o, B) => some (.inr (t, o, B))
  | (e :: S, o, B) =>
    if K t = 5 ∧ W t = 58 ∧ e.1 = -2 then some (.inl (t + 1, true, (-3, [], e.2.2.1, B.length) :: S, o, B)) else
    if K t = 5 ∧ W t = 41 ∧ e.1 = -1 then some (.inl (t + 1, false, f_fin S (o - 1) B)) else none
def f_opr (K W : Nat → Int) (t : Nat) (S : List f_E) (o : Int) (B : List Int) : Option (f_St ⊕ (Nat × Int × List Int)) :=
  if au_bn (K t) (W t) = 0 then
    if K t = 5 ∧ W t = 63 then (if 12 ≤ o then none else some (.inl (t + 1, true, (-2, [], (f_pop 1 S B).2.length + 1, 0) :: (f_pop 1 S B).1, o + 1, (f_pop 1 S B).2 ++ [40, 0, 0])))
    else f_end K W t (f_all S o B)
  else if (decide (au_bn (K t) (W t) = 6 ∧ W t = 43) && lc_al K W (t + 1)) = true then some (.inl (t + 2, false, (f_pop 6 S B).1, o, (f_pop 6 S B).2 ++ 35 :: lc_u 9 (W (t + 1))))
  else if au_bn (K t) (W t) = 4 ∧ f_top (f_pop 5 S B).1 = 4 then none
  else some (.inl (t + 1, true, (au_bn (K t) (W t), [lc_op (K t) (W t)], 0, 0) :: (f_pop (au_bn (K t) (W t)) S B).1, o, (f_pop (au_bn (K t) (W t)) S B).2))
def f_run (K W : Nat → Int) : Nat → f_St → Option (Nat × Int × List Int)
  | 0, _ => none
  | n + 1, (t, true, S, o, B) => match f_opd K W t S o B with
    | none => none
    | some s => f_run K W n s
  | n + 1, (t, false, S, o, B) => match f_opr K W t S o B with
    | none => none
    | some (.inl s) => f_run K W n s
    | some (.inr r) => some r
end
section
/-! The reference's walk writes what the levels say, and refuses what they refuse. -/
def f_fl (P : List f_E) : List Int := (P.map (fun e => e.2.1)).flatten
theorem f_fl_app (P Q : List f_E) : f_fl (P ++ Q) = f_fl P ++ f_fl Q := by simp [f_fl]
theorem f_fl_cons (e : f_E) (P : List f_E) : f_fl (e :: P) = e.2.1 ++ f_fl P := by simp [f_fl]
theorem f_fl_nil : f_fl [] = [] := rfl
theorem f_pop_app {b : Int} : ∀ {P S : List f_E} {B : List Int}, (∀ e, e ∈ P → b ≤ e.1) → f_pop b (P ++ S) B = f_pop b S (B ++ f_fl P)
  | [], S, B, _ => by simp [f_fl]
  | e :: P, S, B, h => by
    have h1 : b ≤ e.1 := h e (by simp)
    have h2 : f_pop b (e :: P ++ S) B = f_pop b (P ++ S) (B ++ e.2.1) := by
      show f_pop b (e :: (P ++ S)) B = _
      simp only [f_pop, if_pos h1]
    rw [h2, f_pop_app (fun x hx => h x (by simp [hx])), f_fl_cons, List.append_assoc]
theorem f_pop_stop {b : Int} {S : List f_E} {B : List Int} (h : f_top S < b) : f_pop b S B = (S, B) := by
  cases S with
  | nil => rfl
  | cons e S =>
    have h2 : e.1 < b := h
    simp only [f_pop]
    rw [if_neg (by omega)]
theorem f_fin_stop {S : List f_E} {o : Int} {B : List Int} (h : f_top S ≠ 9) : f_fin S o B = (S, o, B) := by
  cases S with
  | nil => rfl
  | cons e S =>
    have h2 : e.1 ≠ 9 := h
    simp only [f_fin]
    rw [if_neg h2]
theorem f_all_app : ∀ {P S : List f_E} {o : Int} {B : List Int}, (∀ e, e ∈ P → 1 ≤ e.1) → f_all (P ++ S) o B = f_all S o (B ++ f_fl P)
  | [], S, o, B, _ => by simp [f_fl]
  | e :: P, S, o, B, h => by
    have h1 : 1 ≤ e.1 := h e (by simp)
    have h2 : f_all (e :: P ++ S) o B = f_all (P ++ S) o (B ++ e.2.1) := by
      show f_all (e :: (P ++ S)) o B = _
      simp only [f_all, if_pos h1]
    rw [h2, f_all_app (fun x hx => h x (by simp [hx])), f_fl_cons, List.append_assoc]
theorem f_all_stop {S : List f_E} {o : Int} {B : List Int} (h : f_top S < 1) (h3 : f_top S ≠ -3) : f_all S o B = (S, o, B) := by
  cases S with
  | nil => rfl
  | cons e S =>
    have h2 : e.1 < 1 := h
    have h4 : e.1 ≠ -3 := h3
    simp only [f_all]
    rw [if_neg (by omega), if_neg h4]
theorem f_all_3 {S : List f_E} {o : Int} {B x : List Int} {a m : Nat} : f_all ((-3, x, a, m) :: S) o B = f_all S (o - 1) (f_turn a m B) := by
  simp only [f_all]
  rw [if_neg (by decide)]
  rfl
section FR
variable {K W : Nat → Int}
theorem f_run_d {n t : Nat} {S : List f_E} {o : Int} {B : List Int} {s : f_St} (h : f_opd K W t S o B = some s) : f_run K W (n + 1) (t, true, S, o, B) = f_run K W n s := by simp only [f_run, h]
theorem f_run_d0 {n t : Nat} {S : List f_E} {o : Int} {B : List Int} (h : f_opd K W t S o B = none) : f_run K W (n + 1) (t, true, S, o, B) = none := by simp only [f_run, h]
theorem f_run_r {n t : Nat} {S : List f_E} {o : Int} {B : List Int} {s : f_St} (h : f_opr K W t S o B = some (.inl s)) : f_run K W (n + 1) (t, false, S, o, B) = f_run K W n s := by simp only [f_run, h]
theorem f_run_r0 {n t : Nat} {S : List f_E} {o : Int} {B : List Int} (h : f_opr K W t S o B = none) : f_run K W (n + 1) (t, false, S, o, B) = none := by simp only [f_run, h]
theorem f_run_re {n t : Nat} {S : List f_E} {o : Int} {B : List Int} {r : Nat × Int × List Int} (h : f_opr K W t S o B = some (.inr r)) : f_run K W (n + 1) (t, false, S, o, B) = some r := by simp only [f_run, h]
def f_to (K W : Nat → Int) (a b : f_St) : Prop := ∃ k, ∀ n, f_run K W (k + n) a = f_run K W n b
def f_no (K W : Nat → Int) (a : f_St) : Prop := ∃ k, ∀ n, f_run K W (k + n) a = none
theorem f_to_rf {a : f_St} : f_to K W a a := ⟨0, fun n => by rw [Nat.zero_add]⟩
theorem f_to_tr {a b c : f_St} (h : f_to K W a b) (h2 : f_to K W b c) : f_to K W a c := by
  obtain ⟨k, hk⟩ := h
  obtain ⟨m, hm⟩ := h2
  exact ⟨k + m, fun n => by rw [Nat.add_assoc, hk, hm]⟩
theorem f_no_tr {a b : f_St} (h : f_to K W a b) (h2 : f_no K W b) : f_no K W a := by
  obtain ⟨k, hk⟩ := h
  obtain ⟨m, hm⟩ := h2
  exact ⟨k + m, fun n => by rw [Nat.add_assoc, hk, hm]⟩
theorem f_to_d {t : Nat} {S : List f_E} {o : Int} {B : List Int} {s : f_St} (h : f_opd K W t S o B = some s) : f_to K W (t, true, S, o, B) s := ⟨1, fun n => by rw [Nat.add_comm 1 n]; exact f_run_d h⟩
theorem f_to_r {t : Nat} {S : List f_E} {o : Int} {B : List Int} {s : f_St} (h : f_opr K W t S o B = some (.inl s)) : f_to K W (t, false, S, o, B) s := ⟨1, fun n => by rw [Nat.add_comm 1 n]; exact f_run_r h⟩
theorem f_no_d {t : Nat} {S : List f_E} {o : Int} {B : List Int} (h : f_opd K W t S o B = none) : f_no K W (t, true, S, o, B) := ⟨1, fun n => by rw [Nat.add_comm 1 n]; exact f_run_d0 h⟩
theorem f_no_r {t : Nat} {S : List f_E} {o : Int} {B : List Int} (h : f_opr K W t S o B = none) : f_no K W (t, false, S, o, B) := ⟨1, fun n => by rw [Nat.add_comm 1 n]; exact f_run_r0 h⟩
end FR
theorem au_bn_k0 (w : Int) : au_bn 0 w = 0 := by simp [au_bn]
theorem lc_uy_k0 (w : Int) : lc_uy 0 w = false := by simp [lc_uy]
def lv_4 (P : List f_E) : Prop := ∃ P1 e P2, P = P1 ++ e :: P2 ∧ (∀ x, x ∈ P1 → 5 ≤ x.1) ∧ e.1 = 4
def lv_st (K W : Nat → Int) (l t : Nat) (P : List f_E) : Prop := au_bn (K t) (W t) < (l : Int) ∨ (l ≤ 4 ∧ au_bn (K t) (W t) = 4 ∧ lv_4 P)
def lv_8 (K W : Nat → Int) (T : Nat) (o : Int) (t : Nat) (S : List f_E) (B : List Int) (r : Option (Nat × List Int)) : Prop := match r with
  | none => f_no K W (t, true, S, o, B)
  | some (t1, c) => t < t1 ∧ t1 ≤ T ∧ f_to K W (t, true, S, o, B) (t1, false, f_fin S o (B ++ c))
def lv_b (K W : Nat → Int) (T l : Nat) (o : Int) (t : Nat) (S : List f_E) (B : List Int) (r : Option (Nat × List Int)) : Prop := match r with
  | none => f_no K W (t, true, S, o, B)
  | some (t1, c) => t < t1 ∧ t1 ≤ T ∧ ∃ P B1, f_to K W (t, true, S, o, B) (t1, false, P ++ S, o, B1) ∧ (∀ e, e ∈ P → (l : Int) ≤ e.1) ∧ B1 ++ f_fl P = B ++ c ∧ lv_st K W l t1 P
def lv_0 (K W : Nat → Int) (T : Nat) (o : Int) (t : Nat) (S : List f_E) (B : List Int) (r : Option (Nat × List Int)) : Prop := match r with
  | none => f_no K W (t, true, S, o, B)
  | some (t1, c) => t < t1 ∧ t1 ≤ T ∧ ∃ P o1 B1, f_to K W (t, true, S, o, B) (t1, false, P ++ S, o1, B1) ∧ f_all (P ++ S) o1 B1 = f_all S o (B ++ c) ∧ (au_bn (K t1) (W t1) = 0 ∨ (au_bn (K t1) (W t1) = 4 ∧ lv_4 P)) ∧ ¬ (K t1 = 5 ∧ W t1 = 63)
theorem lv_4_app {P Q : List f_E} (h : lv_4 P) : lv_4 (P ++ Q) := by
  obtain ⟨P1, e, P2, rfl, h1, h2⟩ := h
  exact ⟨P1, e, P2 ++ Q, by simp, h1, h2⟩
section LV
variable {K W : Nat → Int} {T : Nat}
theorem lv_8_b {o : Int} {t : Nat} {S : List f_E} {B : List Int} {r : Option (Nat × List Int)} (h : lv_8 K W T o t S B r) (hS : f_top S ≠ 9) : lv_b K W T 8 o t S B r := by
  match r, h with
  | none, h => exact h
  | some (t1, c), ⟨h1, h2, h3⟩ =>
    rw [f_fin_stop hS] at h3
    refine ⟨h1, h2, [], B ++ c, h3, fun e he => by simp at he, by simp [f_fl], Or.inl ?_⟩
    have := au_bn_rg (K t1) (W t1)
    omega
theorem f_opr_4 {t : Nat} {P S : List f_E} {o : Int} {B : List Int} (h4 : au_bn (K t) (W t) = 4) (hP : lv_4 P) : f_opr K W t (P ++ S) o B = none := by
  obtain ⟨P1, e, P2, rfl, h1, h2⟩ := hP
  have e1 : f_pop 5 (P1 ++ e :: P2 ++ S) B = (e :: (P2 ++ S), B ++ f_fl P1) := by
    rw [List.append_assoc, f_pop_app h1]
    exact f_pop_stop (by show e.1 < 5; omega)
  unfold f_opr
  rw [if_neg (by omega), if_neg (by simp [h4]), if_pos ⟨h4, by rw [e1]; exact h2⟩]
theorem lv_pr {l : Nat} {sub : Nat → Option (Nat × List Int)} {o : Int} {S : List f_E} {B : List Int} {t0 : Nat} (hl : 1 ≤ l) (hT : K T = 0) (hS : f_top S < (l : Int))
    (hsub : ∀ (t : Nat) (S2 : List f_E) (B2 : List Int), t ≤ T → t0 ≤ t → f_top S2 = (l : Int) → lv_b K W T (l + 1) o t S2 B2 (sub t)) :
    ∀ (n t : Nat) (c : List Int) (P : List f_E) (B1 : List Int), T - t < n → t0 ≤ t → t ≤ T → (∀ e, e ∈ P → (l : Int) ≤ e.1) → B1 ++ f_fl P = B ++ c → lv_st K W (l + 1) t P → (l = 4 → ∀ e, e ∈ P → 5 ≤ e.1) →
      match lc_pr sub K W l n t c with
      | none => f_no K W (t, false, P ++ S, o, B1)
      | some (t1, c1) => t ≤ t1 ∧ t1 ≤ T ∧ ∃ P2 B2, f_to K W (t, false, P ++ S, o, B1) (t1, false, P2 ++ S, o, B2) ∧ (∀ e, e ∈ P2 → (l : Int) ≤ e.1) ∧ B2 ++ f_fl P2 = B ++ c1 ∧ lv_st K W l t1 P2 := by
  intro n
  induction n with
  | zero => intro t c P B1 h1; omega
  | succ n ih =>
    intro t c P B1 h1 h2 h3 hP hB hst h4
    have hbn := au_bn_rg (K t) (W t)
    rw [lc_pr]
    by_cases hb : au_bn (K t) (W t) = (l : Int)
    · rw [if_pos hb]
      have htT : t + 1 ≤ T := by
        rcases Nat.lt_or_ge t T with h | h
        · omega
        · exfalso
          have e : t = T := by omega
          rw [e, hT, au_bn_k0] at hb
          omega
      have hpop : ∀ b : Int, b = (l : Int) → f_pop b (P ++ S) B1 = (S, B ++ c) := by
        intro b hbl
        subst hbl
        rw [f_pop_app hP, f_pop_stop hS, hB]
      by_cases ha : (decide (l = 6 ∧ W t = 43) && lc_al K W (t + 1)) = true
      · rw [if_pos ha]
        have ha2 : (l = 6 ∧ W t = 43) ∧ lc_al K W (t + 1) = true := by simpa using ha
        obtain ⟨⟨hl6, hw⟩, hal⟩ := ha2
        have hb6 : au_bn (K t) (W t) = 6 := by omega
        have hr : f_opr K W t (P ++ S) o B1 = some (.inl (t + 2, false, [] ++ S, o, (B ++ c) ++ 35 :: lc_u 9 (W (t + 1)))) := by
          unfold f_opr
          rw [if_neg (by omega), if_pos (by rw [Bool.and_eq_true]; exact ⟨decide_eq_true ⟨hb6, hw⟩, hal⟩), hpop 6 (by omega)]
          rfl
        have hal2 : K (t + 1) = 3 ∧ au_bn (K (t + 2)) (W (t + 2)) ≠ 7 := by simpa [lc_al] using hal
        have htT2 : t + 2 ≤ T := by
          rcases Nat.lt_or_ge (t + 1) T with h | h
          · omega
          · exfalso
            have e : t + 1 = T := by omega
            rw [e, hT] at hal2
            exact absurd hal2.1 (by decide)
        have hn := au_bn_rg (K (t + 2)) (W (t + 2))
        have g := ih (t + 2) (c ++ 35 :: lc_u 9 (W (t + 1))) [] ((B ++ c) ++ 35 :: lc_u 9 (W (t + 1))) (by omega) (by omega) htT2 (fun e he => by simp at he) (by simp [f_fl]) (Or.inl (by omega)) (fun _ e he => by simp at he)
        generalize lc_pr sub K W l n (t + 2) (c ++ 35 :: lc_u 9 (W (t + 1))) = r at g
        match r, g with
        | none, g => exact f_no_tr (f_to_r hr) g
        | some (t1, c1), ⟨g1, g2, P2, B2, g3, g4⟩ => exact ⟨by omega, g2, P2, B2, f_to_tr (f_to_r hr) g3, g4⟩
      · rw [if_neg ha]
        have hr : f_opr K W t (P ++ S) o B1 = some (.inl (t + 1, true, (au_bn (K t) (W t), [lc_op (K t) (W t)], 0, 0) :: S, o, B ++ c)) := by
          unfold f_opr
          rw [if_neg (by omega), if_neg (by intro hx; apply ha; simp at hx ⊢; exact ⟨⟨by omega, hx.1.2⟩, hx.2⟩), if_neg (by
            rintro ⟨h5, h6⟩
            have hl4 : l = 4 := by omega
            rw [f_pop_app (h4 hl4), f_pop_stop (by omega)] at h6
            dsimp only at h6
            omega), hpop _ hb]
        have hs := hsub (t + 1) ((au_bn (K t) (W t), [lc_op (K t) (W t)], 0, 0) :: S) (B ++ c) htT (by omega) hb
        generalize sub (t + 1) = q at hs
        match q, hs with
        | none, hs => exact f_no_tr (f_to_r hr) hs
        | some (t1, c1), ⟨g1, g2, P1, B2, g3, g4, g5, g6⟩ =>
          have e1 : P1 ++ (au_bn (K t) (W t), [lc_op (K t) (W t)], 0, 0) :: S = (P1 ++ [(au_bn (K t) (W t), [lc_op (K t) (W t)], 0, 0)]) ++ S := by simp
          rw [e1] at g3
          have e2 : B2 ++ f_fl (P1 ++ [(au_bn (K t) (W t), [lc_op (K t) (W t)], 0, 0)]) = B ++ (c ++ (c1 ++ [lc_op (K t) (W t)])) := by
            rw [f_fl_app, ← List.append_assoc, g5]
            simp [f_fl]
          have e3 : ∀ e, e ∈ P1 ++ [(au_bn (K t) (W t), [lc_op (K t) (W t)], 0, 0)] → (l : Int) ≤ e.1 := by
            intro e he
            rcases List.mem_append.mp he with he | he
            · have := g4 e he
              omega
            · have he2 := List.mem_singleton.mp he
              rw [he2]
              dsimp only
              omega
          by_cases hl4 : l = 4
          · dsimp only
            rw [if_pos hl4]
            refine ⟨by omega, g2, _, B2, f_to_tr (f_to_r hr) g3, e3, e2, ?_⟩
            have hn := au_bn_rg (K t1) (W t1)
            rcases g6 with g6 | ⟨g6, -⟩
            · by_cases h9 : au_bn (K t1) (W t1) = 4
              · exact Or.inr ⟨by omega, h9, P1, _, [], rfl, fun x hx => by have := g4 x hx; omega, by dsimp only; omega⟩
              · exact Or.inl (by omega)
            · omega
          · dsimp only
            rw [if_neg hl4]
            have g := ih t1 (c ++ (c1 ++ [lc_op (K t) (W t)])) _ B2 (by omega) (by omega) g2 e3 e2 (by
              rcases g6 with g6 | ⟨g6, g7, g8⟩
              · exact Or.inl g6
              · exact Or.inr ⟨g6, g7, lv_4_app g8⟩) (fun h => absurd h hl4)
            generalize lc_pr sub K W l n t1 (c ++ (c1 ++ [lc_op (K t) (W t)])) = r at g
            match r, g with
            | none, g => exact f_no_tr (f_to_tr (f_to_r hr) g3) g
            | some (t2, c2), ⟨k1, k2, P2, B3, k3, k4⟩ => exact ⟨by omega, k2, P2, B3, f_to_tr (f_to_tr (f_to_r hr) g3) k3, k4⟩
    · rw [if_neg hb]
      refine ⟨Nat.le_refl _, h3, P, B1, f_to_rf, hP, hB, ?_⟩
      rcases hst with hst | ⟨g1, g2, g3⟩
      · exact Or.inl (by omega)
      · exact Or.inr ⟨by omega, g2, g3⟩
end LV
end
section
/-! All levels at once. -/
theorem f_end_c {K W : Nat → Int} {t : Nat} {e : f_E} {S : List f_E} {o : Int} {B : List Int} : f_end K W t (e :: S, o, B) = if K t = 5 ∧ W t = 58 ∧ e.1 = -2 then some (.inl (t + 1, true, (-3, [], e.2.2.1, B.length) :: S, o, B)) else if K t = 5 ∧ W t = 41 ∧ e.1 = -1 then some (.inl (t + 1, false, f_fin S (o - 1) B)) else none := rfl
section LM
variable {K W : Nat → Int} {T : Nat}
theorem lt_T {t : Nat} (hT : K T = 0) (ht : t ≤ T) (hk : K t ≠ 0) : t + 1 ≤ T := by
  rcases Nat.lt_or_ge t T with h | h
  · omega
  · exfalso
    have e : t = T := by omega
    rw [e, hT] at hk
    exact hk rfl
theorem lc_bs_lt {t b : Nat} {x : Int} (h : lc_bs K W t = some (b, x)) : t < b ∧ (K T = 0 → t ≤ T → b ≤ T) ∧ K t ≠ 3 ∧ lc_uy (K t) (W t) = false ∧ ¬ (K t = 5 ∧ W t = 40) ∧ ¬ (K t = 2 ∧ W t = 5) ∧ ¬ (K t = 2 ∧ W t = 6) := by
  unfold lc_bs at h
  split at h
  · rename_i h1
    split at h
    · rename_i h2
      cases h
      refine ⟨by omega, fun hT ht => ?_, by omega, ?_, by omega, by omega, by omega⟩
      · have g1 := lt_T hT ht (by omega)
        have g2 := lt_T hT g1 (by omega)
        omega
      · rw [h1.1, h1.2]; decide
    · cases h
  · split at h
    · rename_i h2
      cases h
      refine ⟨by omega, fun hT ht => lt_T hT ht (by omega), by omega, ?_, by omega, by omega, by omega⟩
      rw [h2.1, h2.2]; decide
    · cases h
theorem lc_ad_lt {b : Nat} (h : lc_ad K W b = true) : (K T = 0 → b ≤ T → b + 2 ≤ T) ∧ au_bn (K (b + 2)) (W (b + 2)) < 7 := by
  have h2 : (K b = 5 ∧ (W b = 43 ∨ W b = 45)) ∧ (K (b + 1) = 3 ∧ au_bn (K (b + 2)) (W (b + 2)) ≠ 7) := by simpa [lc_ad, lc_al] using h
  obtain ⟨⟨h3, -⟩, h4, h5⟩ := h2
  have := au_bn_rg (K (b + 2)) (W (b + 2))
  refine ⟨fun hT hb => ?_, by omega⟩
  have g1 := lt_T hT hb (by omega)
  have g2 := lt_T hT g1 (by omega)
  omega
theorem lc_at_lt {y : Bool} {t t1 : Nat} {c : List Int} (hT : K T = 0) (ht : t ≤ T) (h : lc_at K W y t = some (t1, c)) : t < t1 ∧ t1 ≤ T := by
  unfold lc_at at h
  split at h
  · rename_i h1
    cases h
    have := lt_T hT ht (by omega)
    omega
  · split at h
    · rename_i h1 h2
      cases h
      have := lt_T hT ht (by omega)
      omega
    · split at h
      · rename_i h1 h2 h3
        cases h
        have := lt_T hT ht (by omega)
        omega
      · split at h
        · cases h
        · rename_i b x hb
          have g := lc_bs_lt (T := T) hb
          have g2 := g.2.1 hT ht
          split at h
          · rename_i hy
            cases h
            have hy2 : lc_ad K W b = true := by
              cases y
              · simp at hy
              · simpa using hy
            have := (lc_ad_lt (T := T) hy2).1 hT g2
            omega
          · cases h
            omega
theorem lc_at_f {y : Bool} {t : Nat} (h : lc_cm K W t = false) : lc_at K W y t = lc_at K W false t := by
  unfold lc_cm at h
  unfold lc_at
  split
  · rfl
  · split
    · rfl
    · split
      · rfl
      · split
        · rfl
        · rename_i b x hb
          rw [hb] at h
          dsimp only at h
          simp [h]
theorem lc_cm_at {t : Nat} (h : lc_cm K W t = true) : ∃ b x, lc_bs K W t = some (b, x) ∧ lc_ad K W b = true ∧ lc_at K W true t = some (b + 2, x :: lc_s 9 (lc_sg K W b)) := by
  unfold lc_cm at h
  split at h
  · cases h
  · rename_i b x hb
    have g := lc_bs_lt (T := 0) hb
    refine ⟨b, x, hb, h, ?_⟩
    unfold lc_at
    rw [if_neg g.2.2.1, if_neg g.2.2.2.2.2.1, if_neg g.2.2.2.2.2.2, hb]
    simp [h]
theorem f_turn_eq {B c1 c2 c3 : List Int} : f_turn ((B ++ c1).length + 1) (B ++ c1 ++ [40, 0, 0] ++ c2).length (B ++ c1 ++ [40, 0, 0] ++ c2 ++ c3) = B ++ (c1 ++ lc_ch c2 c3) := by
  have e0 : B ++ c1 ++ [40, 0, 0] ++ c2 ++ c3 = (B ++ c1 ++ [40]) ++ ([0, 0] ++ c2 ++ c3) := by simp
  have e1 : (B ++ c1).length + 1 = (B ++ c1 ++ [40]).length := by simp only [List.length_append, List.length_cons, List.length_nil]
  have e2 : (B ++ c1 ++ [40, 0, 0] ++ c2 ++ c3).take ((B ++ c1).length + 1) = B ++ c1 ++ [40] := by
    rw [e0, e1, List.take_left']
    rfl
  have e3 : (B ++ c1 ++ [40, 0, 0] ++ c2 ++ c3).drop (B ++ c1 ++ [40, 0, 0] ++ c2).length = c3 := by
    rw [List.drop_left']
    rfl
  have e4 : (B ++ c1 ++ [40, 0, 0] ++ c2 ++ c3).drop ((B ++ c1).length + 1 + 2) = c2 ++ c3 := by
    have e : B ++ c1 ++ [40, 0, 0] ++ c2 ++ c3 = (B ++ c1 ++ [40, 0, 0]) ++ (c2 ++ c3) := by simp
    rw [e, show (B ++ c1).length + 1 + 2 = (B ++ c1 ++ [40, 0, 0]).length by (simp only [List.length_append, List.length_cons, List.length_nil]), List.drop_left']
    rfl
  have e5 : (B ++ c1 ++ [40, 0, 0] ++ c2).length - ((B ++ c1).length + 1) - 2 = c2.length := by
    simp only [List.length_append, List.length_cons, List.length_nil]
    omega
  have e6 : (B ++ c1 ++ [40, 0, 0] ++ c2 ++ c3).length - (B ++ c1 ++ [40, 0, 0] ++ c2).length = c3.length := by
    simp only [List.length_append, List.length_cons, List.length_nil]
    omega
  unfold f_turn
  rw [e2, e3, e4, e5, e6, List.take_left' rfl]
  unfold lc_ch
  simp
theorem lv_main (hT : K T = 0) : ∀ f : Nat,
    (∀ (o : Int) (t : Nat) (S : List f_E) (B : List Int), t ≤ T → 12 * (T - t) + 1 < f → (6 ≤ f_top S ∨ lc_cm K W t = false) → lv_8 K W T o t S B (lc_ps K W f 8 o t)) ∧
    (∀ l : Nat, 1 ≤ l → l ≤ 7 → ∀ (o : Int) (t : Nat) (S : List f_E) (B : List Int), t ≤ T → 12 * (T - t) + (9 - l) < f → f_top S < (l : Int) → (l = 7 → (6 ≤ f_top S ∨ lc_cm K W t = false)) → lv_b K W T l o t S B (lc_ps K W f l o t)) ∧
    (∀ (o : Int) (t : Nat) (S : List f_E) (B : List Int), t ≤ T → 12 * (T - t) + 9 < f → f_top S < 1 → lv_0 K W T o t S B (lc_ps K W f 0 o t)) := by
  intro f
  induction f with
  | zero => exact ⟨fun o t S B _ h => by omega, fun l _ _ o t S B _ h => by omega, fun o t S B _ h => by omega⟩
  | succ f ih =>
    obtain ⟨ih8, ihb, ih0⟩ := ih
    refine ⟨?_, ?_, ?_⟩
    · intro o t S B ht hf hc
      rw [lc_ps, if_neg (by decide), if_pos rfl]
      by_cases hu : lc_uy (K t) (W t) = true
      · rw [if_pos hu]
        have hk : K t ≠ 0 := fun e => by rw [e, lc_uy_k0] at hu; cases hu
        have ht1 := lt_T hT ht hk
        by_cases h12 : 12 ≤ o
        · rw [if_pos h12]
          exact f_no_d (by unfold f_opd; rw [if_pos hu, if_pos h12])
        · rw [if_neg h12]
          have hr : f_opd K W t S o B = some (t + 1, true, (9, lc_un (K t) (W t), 0, 0) :: S, o + 1, B) := by unfold f_opd; rw [if_pos hu, if_neg h12]
          have hs := ih8 (o + 1) (t + 1) ((9, lc_un (K t) (W t), 0, 0) :: S) B ht1 (by omega) (Or.inl (by show (6 : Int) ≤ 9; decide))
          generalize lc_ps K W f 8 (o + 1) (t + 1) = q at hs
          match q, hs with
          | none, hs => exact f_no_tr (f_to_d hr) hs
          | some (t1, c1), ⟨g1, g2, g3⟩ =>
            have e : f_fin ((9, lc_un (K t) (W t), 0, 0) :: S) (o + 1) (B ++ c1) = f_fin S o (B ++ (c1 ++ lc_un (K t) (W t))) := by
              simp only [f_fin]
              rw [if_pos trivial, show o + 1 - 1 = o by omega, List.append_assoc]
            rw [e] at g3
            exact ⟨by omega, g2, f_to_tr (f_to_d hr) g3⟩
      · rw [if_neg hu]
        by_cases hp : K t = 5 ∧ W t = 40
        · rw [if_pos hp]
          have ht1 := lt_T hT ht (by omega)
          by_cases h12 : 12 ≤ o
          · rw [if_pos h12]
            exact f_no_d (by unfold f_opd; rw [if_neg hu, if_pos hp, if_pos h12])
          · rw [if_neg h12]
            have hr : f_opd K W t S o B = some (t + 1, true, (-1, [], 0, 0) :: S, o + 1, B) := by unfold f_opd; rw [if_neg hu, if_pos hp, if_neg h12]
            have hs := ih0 (o + 1) (t + 1) ((-1, [], 0, 0) :: S) B ht1 (by omega) (by show (-1 : Int) < 1; decide)
            generalize lc_ps K W f 0 (o + 1) (t + 1) = q at hs
            match q, hs with
            | none, hs => exact f_no_tr (f_to_d hr) hs
            | some (t1, c1), ⟨g1, g2, P, o1, B1, g3, g4, g5, g6⟩ =>
              have e : f_all ((-1, [], 0, 0) :: S) (o + 1) (B ++ c1) = ((-1, [], 0, 0) :: S, o + 1, B ++ c1) := f_all_stop (by show (-1 : Int) < 1; decide) (by show (-1 : Int) ≠ -3; decide)
              rw [e] at g4
              dsimp only
              by_cases hk : K t1 = 5 ∧ W t1 = 41
              · rw [if_pos hk]
                have hn0 : au_bn (K t1) (W t1) = 0 := by rw [hk.1, hk.2]; decide
                have hr2 : f_opr K W t1 (P ++ (-1, [], 0, 0) :: S) o1 B1 = some (.inl (t1 + 1, false, f_fin S o (B ++ c1))) := by
                  unfold f_opr
                  rw [if_pos hn0, if_neg g6, g4]
                  rw [f_end_c]
                  rw [if_neg (by omega), if_pos ⟨hk.1, hk.2, rfl⟩, show o + 1 - 1 = o by omega]
                have ht2 := lt_T hT g2 (by omega)
                exact ⟨by omega, ht2, f_to_tr (f_to_d hr) (f_to_tr g3 (f_to_r hr2))⟩
              · rw [if_neg hk]
                refine f_no_tr (f_to_d hr) (f_no_tr g3 (f_no_r ?_))
                rcases g5 with g5 | ⟨g5, g7⟩
                · unfold f_opr
                  rw [if_pos g5, if_neg g6, g4]
                  rw [f_end_c]
                  rw [if_neg (by rintro ⟨-, -, h⟩; exact absurd h (by decide)), if_neg (by rintro ⟨h1, h2, -⟩; exact hk ⟨h1, h2⟩)]
                · exact f_opr_4 g5 g7
        · rw [if_neg hp]
          have e : lc_at K W (decide (f_top S < 6)) t = lc_at K W false t := by
            rcases hc with hc | hc
            · rw [show decide (f_top S < 6) = false from decide_eq_false (by omega)]
            · exact lc_at_f hc
          have hd : f_opd K W t S o B = match lc_at K W false t with
              | none => none
              | some (t1, c) => some (t1, false, f_fin S o (B ++ c)) := by
            unfold f_opd
            rw [if_neg hu, if_neg hp, e]
            cases lc_at K W false t <;> rfl
          cases hq : lc_at K W false t with
          | none => rw [hq] at hd; exact f_no_d hd
          | some p =>
            obtain ⟨t1, c⟩ := p
            rw [hq] at hd
            have g := lc_at_lt hT ht hq
            exact ⟨g.1, g.2, f_to_d hd⟩
    · intro l hl1 hl7 o t S B ht hf hS hc
      rw [lc_ps, if_neg (by omega), if_neg (by omega)]
      have hsub : ∀ (t : Nat) (S : List f_E) (B : List Int), t ≤ T → 12 * (T - t) + (9 - (l + 1)) < f → f_top S < (l : Int) + 1 → (6 ≤ l → (6 ≤ f_top S ∨ lc_cm K W t = false)) → lv_b K W T (l + 1) o t S B (lc_ps K W f (l + 1) o t) := by
        intro t S B ht hf hS hc
        by_cases h7 : l = 7
        · subst h7
          exact lv_8_b (ih8 o t S B ht (by omega) (hc (by omega))) (by omega)
        · exact ihb (l + 1) (by omega) (by omega) o t S B ht hf (by omega) (fun h => hc (by omega))
      by_cases hcm : (decide (l = 6) && lc_cm K W t) = true
      · rw [if_pos hcm]
        have h2 : l = 6 ∧ lc_cm K W t = true := by simpa using hcm
        obtain ⟨h6, h3⟩ := h2
        obtain ⟨b, x, q1, q2, q3⟩ := lc_cm_at h3
        have g := lc_bs_lt (T := T) q1
        have g2 := lc_ad_lt (T := T) q2
        have hb := g.2.1 hT ht
        have hb2 := g2.1 hT hb
        have hd : f_opd K W t S o B = some (b + 2, false, [] ++ S, o, B ++ x :: lc_s 9 (lc_sg K W b)) := by
          unfold f_opd
          rw [if_neg (by rw [g.2.2.2.1]; decide), if_neg g.2.2.2.2.1, show decide (f_top S < 6) = true from decide_eq_true (by omega), q3]
          dsimp only
          rw [f_fin_stop (by omega)]
          rfl
        rw [q3]
        dsimp only
        have k := lv_pr (K := K) (W := W) (T := T) (l := l) (sub := fun t' => lc_ps K W f (l + 1) o t') (o := o) (S := S) (B := B) (t0 := t) hl1 hT hS (fun t' S2 B2 k1 k2 k3 => hsub t' S2 B2 k1 (by omega) (by omega) (fun _ => Or.inl (by omega)))
          f (b + 2) (x :: lc_s 9 (lc_sg K W b)) [] (B ++ x :: lc_s 9 (lc_sg K W b)) (by omega) (by omega) hb2 (fun e he => by simp at he) (by simp [f_fl]) (Or.inl (by omega)) (fun _ e he => by simp at he)
        generalize lc_pr (fun t' => lc_ps K W f (l + 1) o t') K W l f (b + 2) (x :: lc_s 9 (lc_sg K W b)) = r at k
        match r, k with
        | none, k => exact f_no_tr (f_to_d hd) k
        | some (t1, c1), ⟨k1, k2, P2, B2, k3, k4⟩ => exact ⟨by omega, k2, P2, B2, f_to_tr (f_to_d hd) k3, k4⟩
      · rw [if_neg hcm]
        have hcm2 : l = 6 → lc_cm K W t = false := by
          intro h6
          cases h : lc_cm K W t with
          | false => rfl
          | true => exact absurd (by simp [h6, h]) hcm
        have hs := hsub t S B ht (by omega) (by omega) (fun h => by
          by_cases h6 : l = 6
          · exact Or.inr (hcm2 h6)
          · exact hc (by omega))
        generalize lc_ps K W f (l + 1) o t = q at hs
        match q, hs with
        | none, hs => exact hs
        | some (t1, c1), ⟨g1, g2, P, B1, g3, g4, g5, g6⟩ =>
          dsimp only
          have k := lv_pr (K := K) (W := W) (T := T) (l := l) (sub := fun t' => lc_ps K W f (l + 1) o t') (o := o) (S := S) (B := B) (t0 := t) hl1 hT hS (fun t' S2 B2 k1 k2 k3 => hsub t' S2 B2 k1 (by omega) (by omega) (fun _ => Or.inl (by omega)))
            f t1 c1 P B1 (by omega) (by omega) g2 (fun e he => by have := g4 e he; omega) g5 g6 (fun h4 e he => by have := g4 e he; omega)
          generalize lc_pr (fun t' => lc_ps K W f (l + 1) o t') K W l f t1 c1 = r at k
          match r, k with
          | none, k => exact f_no_tr g3 k
          | some (t2, c2), ⟨k1, k2, P2, B2, k3, k4⟩ => exact ⟨by omega, k2, P2, B2, f_to_tr g3 k3, k4⟩
    · intro o t S B ht hf hS
      rw [lc_ps, if_pos rfl]
      have hs := ihb 1 (by decide) (by decide) o t S B ht (by omega) (by omega) (fun h => by omega)
      generalize lc_ps K W f 1 o t = q at hs
      match q, hs with
      | none, hs => exact hs
      | some (t1, c1), ⟨g1, g2, P, B1, g3, g4, g5, g6⟩ =>
        dsimp only
        have hg4 : ∀ e, e ∈ P → 1 ≤ e.1 := fun e he => by have := g4 e he; omega
        have hst : au_bn (K t1) (W t1) = 0 ∨ (au_bn (K t1) (W t1) = 4 ∧ lv_4 P) := by
          have := au_bn_rg (K t1) (W t1)
          rcases g6 with g6 | ⟨-, g7, g8⟩
          · exact Or.inl (by omega)
          · exact Or.inr ⟨g7, g8⟩
        by_cases hq : K t1 = 5 ∧ W t1 = 63
        · rw [if_pos hq]
          have hn0 : au_bn (K t1) (W t1) = 0 := by rw [hq.1, hq.2]; decide
          have hpop : f_pop 1 (P ++ S) B1 = (S, B ++ c1) := by rw [f_pop_app hg4, f_pop_stop hS, g5]
          by_cases h12 : 12 ≤ o
          · rw [if_pos h12]
            refine f_no_tr g3 (f_no_r ?_)
            unfold f_opr
            rw [if_pos hn0, if_pos hq, if_pos h12]
          · rw [if_neg h12]
            have hr : f_opr K W t1 (P ++ S) o B1 = some (.inl (t1 + 1, true, (-2, [], (B ++ c1).length + 1, 0) :: S, o + 1, B ++ c1 ++ [40, 0, 0])) := by
              unfold f_opr
              rw [if_pos hn0, if_pos hq, if_neg h12, hpop]
            have ht1 := lt_T hT g2 (by omega)
            have hs2 := ih0 (o + 1) (t1 + 1) ((-2, [], (B ++ c1).length + 1, 0) :: S) (B ++ c1 ++ [40, 0, 0]) ht1 (by omega) (by show (-2 : Int) < 1; decide)
            generalize lc_ps K W f 0 (o + 1) (t1 + 1) = q2 at hs2
            match q2, hs2 with
            | none, hs2 => exact f_no_tr g3 (f_no_tr (f_to_r hr) hs2)
            | some (t2, c2), ⟨k1, k2, P2, o2, B2, k3, k4, k5, k6⟩ =>
              dsimp only
              have e : f_all ((-2, [], (B ++ c1).length + 1, 0) :: S) (o + 1) (B ++ c1 ++ [40, 0, 0] ++ c2) = ((-2, [], (B ++ c1).length + 1, 0) :: S, o + 1, B ++ c1 ++ [40, 0, 0] ++ c2) := f_all_stop (by show (-2 : Int) < 1; decide) (by show (-2 : Int) ≠ -3; decide)
              rw [e] at k4
              by_cases hk : K t2 = 5 ∧ W t2 = 58
              · rw [if_pos hk]
                have hn2 : au_bn (K t2) (W t2) = 0 := by rw [hk.1, hk.2]; decide
                have hr2 : f_opr K W t2 (P2 ++ (-2, [], (B ++ c1).length + 1, 0) :: S) o2 B2 = some (.inl (t2 + 1, true, (-3, [], (B ++ c1).length + 1, (B ++ c1 ++ [40, 0, 0] ++ c2).length) :: S, o + 1, B ++ c1 ++ [40, 0, 0] ++ c2)) := by
                  unfold f_opr
                  rw [if_pos hn2, if_neg k6, k4]
                  rw [f_end_c]
                  rw [if_pos ⟨hk.1, hk.2, rfl⟩]
                have ht2 := lt_T hT k2 (by omega)
                have hs3 := ih0 (o + 1) (t2 + 1) ((-3, [], (B ++ c1).length + 1, (B ++ c1 ++ [40, 0, 0] ++ c2).length) :: S) (B ++ c1 ++ [40, 0, 0] ++ c2) ht2 (by omega) (by show (-3 : Int) < 1; decide)
                generalize lc_ps K W f 0 (o + 1) (t2 + 1) = q3 at hs3
                match q3, hs3 with
                | none, hs3 => exact f_no_tr g3 (f_no_tr (f_to_r hr) (f_no_tr k3 (f_no_tr (f_to_r hr2) hs3)))
                | some (t3, c3), ⟨m1, m2, P3, o3, B3, m3, m4, m5, m6⟩ =>
                  dsimp only
                  rw [f_all_3, f_turn_eq, show o + 1 - 1 = o by omega] at m4
                  have e3 : P3 ++ (-3, [], (B ++ c1).length + 1, (B ++ c1 ++ [40, 0, 0] ++ c2).length) :: S = (P3 ++ [(-3, [], (B ++ c1).length + 1, (B ++ c1 ++ [40, 0, 0] ++ c2).length)]) ++ S := by simp
                  rw [e3] at m3 m4
                  refine ⟨by omega, m2, _, o3, B3, f_to_tr g3 (f_to_tr (f_to_r hr) (f_to_tr k3 (f_to_tr (f_to_r hr2) m3))), m4, ?_, m6⟩
                  rcases m5 with m5 | ⟨m5, m7⟩
                  · exact Or.inl m5
                  · exact Or.inr ⟨m5, lv_4_app m7⟩
              · rw [if_neg hk]
                refine f_no_tr g3 (f_no_tr (f_to_r hr) (f_no_tr k3 (f_no_r ?_)))
                rcases k5 with k5 | ⟨k5, k7⟩
                · unfold f_opr
                  rw [if_pos k5, if_neg k6, k4]
                  rw [f_end_c]
                  rw [if_neg (by rintro ⟨h1, h2, -⟩; exact hk ⟨h1, h2⟩), if_neg (by rintro ⟨-, -, h⟩; exact absurd (show (-2 : Int) = -1 from h) (by decide))]
                · exact f_opr_4 k5 k7
        · rw [if_neg hq]
          refine ⟨g1, g2, P, o, B1, g3, ?_, hst, hq⟩
          rw [f_all_app hg4, g5]
/-- an expression from t on, as chosen reads it -/
theorem lv_chosen (hT : K T = 0) {o : Int} {t : Nat} {B : List Int} (ht : t ≤ T) {f : Nat} (hf : 12 * (T - t) + 9 < f) :
    match lc_ps K W f 0 o t with
    | none => f_no K W (t, true, [], o, B)
    | some (t1, c) => t < t1 ∧ t1 ≤ T ∧ ((au_bn (K t1) (W t1) = 0 ∧ ¬ (K t1 = 5 ∧ W t1 = 63) ∧ ∃ k, ∀ n, f_run K W (k + n + 1) (t, true, [], o, B) = some (t1, o, B ++ c)) ∨ (au_bn (K t1) (W t1) = 4 ∧ f_no K W (t, true, [], o, B))) := by
  have h := (lv_main (W := W) hT f).2.2 o t [] B ht hf (by decide)
  generalize lc_ps K W f 0 o t = q at h
  match q, h with
  | none, h => exact h
  | some (t1, c), ⟨h1, h2, P, o1, B1, ⟨k, h3⟩, h4, h5, h6⟩ =>
    refine ⟨h1, h2, ?_⟩
    rcases h5 with h5 | ⟨h5, h7⟩
    · refine Or.inl ⟨h5, h6, k, fun n => ?_⟩
      rw [Nat.add_assoc, h3]
      refine f_run_re ?_
      unfold f_opr
      rw [if_pos h5, if_neg h6, h4]
      rfl
    · exact Or.inr ⟨h5, f_no_tr ⟨k, h3⟩ (f_no_r (f_opr_4 h5 h7))⟩
end LM
end
section
/-! WHAT A RUN THAT ENDED HAS DONE. pw: of every run of at most N steps from here the answer is inj x, and Ψ holds of x and of the cells behind it. The P_.. are what Ψ is built of: the method's own course, as a proposition. -/
def P_and {ρ : Type} (p : Prop) (A : ρ → hS → Prop) : ρ → hS → Prop := fun x s => p ∧ A x s
def P_if {ρ : Type} (p : Prop) (A B : ρ → hS → Prop) : ρ → hS → Prop := fun x s => (p ∧ A x s) ∨ (¬ p ∧ B x s)
def P_ret {ρ : Type} (v : ρ) (s0 : hS) : ρ → hS → Prop := fun x s => x = v ∧ s = s0
def P_sm {ρ : Type} (o : Option Nat) (A : Nat → ρ → hS → Prop) : ρ → hS → Prop := fun x s => ∃ q, o = some q ∧ A q x s
def P_bi {ρ τ : Type} (C : τ → hS → Prop) (A : τ → Nat → Nat → (Nat → Nat × Nat) → (Nat → Nat → Int32) → (Nat → Nat → Int64) → (Nat → Nat → Option Nat) → ρ → hS → Prop) : ρ → hS → Prop := fun x s => ∃ v n sl SH FI FL FR, C v (n, sl, SH, FI, FL, FR) ∧ A v n sl SH FI FL FR x s
/-- what stays fixed: the first cells' shapes, the final references -/
def h_FO (FR : Nat → Nat → Option Nat) : Prop := ∀ e ∈ hf_L, (hs_L.getD e.1 (0, 0)).1 < 100 → FR e.1 e.2.1 = some e.2.2
def pk (n : Nat) (SH : Nat → Nat × Nat) (FR : Nat → Nat → Option Nat) : Prop := h_S n SH ∧ h_FO FR ∧ FR 49 1 = none
def pw {ρ : Type} (inj : ρ → Option Value) (sk : xK) (base N d : Nat) (X : Option (Nat × Nat × (Nat → Int32))) (j pc : Nat) (L : xL) (st : List Value) (s : hS) (Ψ : ρ → hS → Prop) : Prop :=
  ∀ n, n ≤ N → ∀ h r h', h_Rel base s h → x_go sk vwCl x_kn x_Ts x_AO xMM base n d X j (pc, L, st, h) r h' → ∃ x s', r = inj x ∧ h_Rel base s' h' ∧ pk s'.1 s'.2.2.1 s'.2.2.2.2.2 ∧ Ψ x s'
def pj_I (x : Int32) : Option Value := some (.int x)
def pj_J (x : Int64) : Option Value := some (.long x)
def pj_V (_ : Unit) : Option Value := none
def pj_A (base : Nat) (x : Option Nat) : Option Value := some (va_rf (h_rf base x))
def x_pure (i : Jvm.ClassFile.Instr) : Bool := match i with
  | .ireturn => false
  | .lreturn => false
  | .areturn => false
  | .return_ => false
  | .invokevirtual _ => false
  | .invokestatic _ => false
  | .invokespecial _ => false
  | .ldc _ => false
  | .getfield _ => false
  | .arraylength => false
  | .baload => false
  | .getstatic _ => false
  | .i2b => false
  | _ => true
theorem x_pure_r {i : Jvm.ClassFile.Instr} (h : x_pure i = true) {ret : Option FieldType} {len : Nat} {st : List Value} {r : Option Value} (hr : x_ret ret i len st r) : False := by
  cases i <;> first | exact hr.elim | exact absurd h (by simp [x_pure])
theorem x_pure_s {i : Jvm.ClassFile.Instr} (h : x_pure i = true) {sk : xK} {Ts : List Cond} {own : String} {len : Nat} {a b : xS} (hr : x_sins sk Ts own i len a b) : False := by
  cases i <;> first | exact hr.elim | exact absurd h (by simp [x_pure])
theorem x_pure_c {i : Jvm.ClassFile.Instr} (h : x_pure i = true) {sk : xK} {cl : List vw_C} {Ts AO : List Cond} {base : Nat} {own : String} {len : Nat} {a : xS} {y : MethodName} {As rest : List Value} (hr : x_cal sk cl Ts AO base own i len a y As rest) : False := by
  obtain ⟨-, -, -, -, -, hr⟩ := hr
  cases i <;> first | exact hr.elim | exact absurd h (by simp [x_pure])
theorem x_pure_n {i : Jvm.ClassFile.Instr} (h : x_pure i = true) {kd : List FieldType} {Ts AO : List Cond} {base : Nat} {own : String} {len : Nat} {a b : xS} (hr : x_nat kd Ts AO base own i len a b) : False := by
  cases i <;> first | exact hr.elim | exact absurd h (by simp [x_pure])
theorem va_rf_inj {a b : Option Nat} (h : va_rf a = va_rf b) : a = b := by
  cases a <;> cases b <;> first | rfl | (cases h; done) | (cases h; rfl)
theorem h_rf_some {base q : Nat} {o : Option Nat} (h : va_rf (h_rf base o) = .ref (base + q)) : o = some q := by
  cases o with
  | none => cases h
  | some p =>
    have e : base + p = base + q := Value.ref.inj h
    rw [show p = q by omega]
/-- what a local is -/
theorem x_lu {L : xL} {i : Nat} {v w : Value} (h : L.filter (fun q => q.1 == i) = [(i, w)]) (hm : (i, v) ∈ L) : v = w := by
  have h1 : (i, v) ∈ L.filter (fun q => q.1 == i) := List.mem_filter.mpr ⟨hm, by simp⟩
  rw [h] at h1
  have h2 := List.mem_singleton.mp h1
  cases h2
  rfl
section PW
variable {ρ : Type} {inj : ρ → Option Value} {sk : xK} {base N d : Nat} {X : Option (Nat × Nat × (Nat → Int32))} {j : Nat} {y : MethodName} {nL : Nat} {ret : Option FieldType} {len pc : Nat} {L : xL} {st : List Value} {s : hS} {Ψ A B : ρ → hS → Prop}
theorem pw_mono {M : Nat} (k : pw inj sk base N d X j pc L st s Ψ) (h : M ≤ N) : pw inj sk base M d X j pc L st s Ψ := fun n hn => k n (Nat.le_trans hn h)
theorem pw_cons (k : pw inj sk base N d X j pc L st s A) (h : ∀ x s, A x s → B x s) : pw inj sk base N d X j pc L st s B := by
  intro n hn h0 r h' hR hg
  obtain ⟨x, s', e, h1, hp0, h2⟩ := k n hn h0 r h' hR hg
  exact ⟨x, s', e, h1, hp0, h x s' h2⟩
theorem pw_0 : pw inj sk base 0 d X j pc L st s Ψ := by
  intro n hn h r h' hR hg
  have e : n = 0 := by omega
  subst e
  exact hg.elim
theorem pw_inv {i : Jvm.ClassFile.Instr} (q : x_at xMM j pc i len y nL ret)
    (k : ∀ n, n + 1 ≤ N → ∀ h r h', h_Rel base s h →
      ((∃ b, (x_ins vwCl x_kn x_Ts x_AO X base y.cls y.name nL i len (pc, L, st, h) b ∨ x_sins sk x_Ts y.cls i len (pc, L, st, h) b) ∧ x_go sk vwCl x_kn x_Ts x_AO xMM base n d X j b r h') ∨
       (x_ret ret i len st r ∧ h = h') ∨
       (∃ d' j2 y2 cc2 nL2 ret2 As rest v h1, d = d' + 1 ∧ 0 < j2 ∧ xMM j2 = some (y2, cc2, nL2, ret2) ∧ x_cal sk vwCl x_Ts x_AO base y.cls i len (pc, L, st, h) y2 As rest ∧ (lg_sl As).length ≤ nL2 ∧ x_go sk vwCl x_kn x_Ts x_AO xMM base n d' none j2 (0, lv_args 0 As, [], h) v h1 ∧ x_go sk vwCl x_kn x_Ts x_AO xMM base n d X j (pc + 3, L, v.toList ++ rest, h1) r h') ∨
       (∃ d' b, d = d' + 1 ∧ x_nat x_kn x_Ts x_AO base y.cls i len (pc, L, st, h) b ∧ x_go sk vwCl x_kn x_Ts x_AO xMM base n d X j b r h')) →
      ∃ x s', r = inj x ∧ h_Rel base s' h' ∧ pk s'.1 s'.2.2.1 s'.2.2.2.2.2 ∧ Ψ x s') : pw inj sk base N d X j pc L st s Ψ := by
  intro n hn h r h' hR hg
  cases n with
  | zero => exact hg.elim
  | succ n =>
    obtain ⟨y', cc', nL', ret', i', len', hM, hd, hh⟩ := hg
    obtain ⟨cc, hM0, hd0⟩ := q
    rw [hM0] at hM
    have hM1 := Option.some.inj hM
    simp only [Prod.mk.injEq] at hM1
    obtain ⟨rfl, rfl, rfl, rfl⟩ := hM1
    have hd1 : decode cc pc = .ok (i', len') := hd
    rw [hd0] at hd1
    cases hd1
    exact k n hn h r h' hR hh
theorem pw_st {i : Jvm.ClassFile.Instr} (q : x_at xMM j pc i len y nL ret) (hp : x_pure i = true)
    (k : ∀ h b, h_Rel base s h → x_ins vwCl x_kn x_Ts x_AO X base y.cls y.name nL i len (pc, L, st, h) b → ∀ n, n + 1 ≤ N → ∀ r h', x_go sk vwCl x_kn x_Ts x_AO xMM base n d X j b r h' → ∃ x s', r = inj x ∧ h_Rel base s' h' ∧ pk s'.1 s'.2.2.1 s'.2.2.2.2.2 ∧ Ψ x s') : pw inj sk base N d X j pc L st s Ψ := by
  refine pw_inv q (fun n hn h r h' hR hh => ?_)
  rcases hh with ⟨b, hi | hi, hg⟩ | ⟨hr, -⟩ | ⟨_, _, _, _, _, _, _, _, _, _, _, _, _, hc, _⟩ | ⟨_, _, _, hc, _⟩
  · exact k h b hR hi n hn r h' hg
  · exact (x_pure_s hp hi).elim
  · exact (x_pure_r hp hr).elim
  · exact (x_pure_c hp hc).elim
  · exact (x_pure_n hp hc).elim
/-- a step that leaves the cells as they are -/
theorem pw_pu {i : Jvm.ClassFile.Instr} {pc' : Nat} {L' : xL} {st' : List Value} (q : x_at xMM j pc i len y nL ret) (hp : x_pure i = true) (hi : ∀ h b, x_ins vwCl x_kn x_Ts x_AO X base y.cls y.name nL i len (pc, L, st, h) b → b = (pc', L', st', h)) (k : pw inj sk base N d X j pc' L' st' s Ψ) : pw inj sk base N d X j pc L st s Ψ :=
  pw_st q hp (fun h b hR hb n hn r h' hg => by rw [hi h b hb] at hg; exact k n (by omega) h r h' hR hg)
/-- the same, and it took a step -/
theorem pw_pd {i : Jvm.ClassFile.Instr} {pc' : Nat} {L' : xL} {st' : List Value} (q : x_at xMM j pc i len y nL ret) (hp : x_pure i = true) (hi : ∀ h b, x_ins vwCl x_kn x_Ts x_AO X base y.cls y.name nL i len (pc, L, st, h) b → b = (pc', L', st', h)) (k : pw inj sk base (N - 1) d X j pc' L' st' s Ψ) : pw inj sk base N d X j pc L st s Ψ :=
  pw_st q hp (fun h b hR hb n hn r h' hg => by rw [hi h b hb] at hg; exact k n (by omega) h r h' hR hg)
theorem pw_pg {i : Jvm.ClassFile.Instr} {pc' : Nat} {L' : xL} {st' : List Value} {g : Prop} (q : x_at xMM j pc i len y nL ret) (hp : x_pure i = true) (hi : ∀ h b, x_ins vwCl x_kn x_Ts x_AO X base y.cls y.name nL i len (pc, L, st, h) b → g ∧ b = (pc', L', st', h)) (k : g → pw inj sk base N d X j pc' L' st' s A) : pw inj sk base N d X j pc L st s (P_and g A) :=
  pw_st q hp (fun h b hR hb n hn r h' hg => by
    obtain ⟨g1, g2⟩ := hi h b hb
    rw [g2] at hg
    obtain ⟨x, s', e, h1, hp0, h2⟩ := k g1 n (by omega) h r h' hR hg
    exact ⟨x, s', e, h1, hp0, g1, h2⟩)
/-- a branch -/
theorem pw_br {i : Jvm.ClassFile.Instr} {p1 p2 : Nat} {st' : List Value} {c : Prop} (q : x_at xMM j pc i len y nL ret) (hp : x_pure i = true) (hi : ∀ h b, x_ins vwCl x_kn x_Ts x_AO X base y.cls y.name nL i len (pc, L, st, h) b → (c ∧ b = (p1, L, st', h)) ∨ (¬ c ∧ b = (p2, L, st', h))) (kt : c → pw inj sk base N d X j p1 L st' s A) (kf : ¬ c → pw inj sk base N d X j p2 L st' s B) : pw inj sk base N d X j pc L st s (P_if c A B) :=
  pw_st q hp (fun h b hR hb n hn r h' hg => by
    rcases hi h b hb with ⟨g1, g2⟩ | ⟨g1, g2⟩
    · rw [g2] at hg
      obtain ⟨x, s', e, h1, hp0, h2⟩ := kt g1 n (by omega) h r h' hR hg
      exact ⟨x, s', e, h1, hp0, Or.inl ⟨g1, h2⟩⟩
    · rw [g2] at hg
      obtain ⟨x, s', e, h1, hp0, h2⟩ := kf g1 n (by omega) h r h' hR hg
      exact ⟨x, s', e, h1, hp0, Or.inr ⟨g1, h2⟩⟩)
theorem pw_case (c : Prop) (kt : c → pw inj sk base N d X j pc L st s A) (kf : ¬ c → pw inj sk base N d X j pc L st s B) : pw inj sk base N d X j pc L st s (P_if c A B) := by
  by_cases h : c
  · exact pw_cons (kt h) (fun x s hx => Or.inl ⟨h, hx⟩)
  · exact pw_cons (kf h) (fun x s hx => Or.inr ⟨h, hx⟩)
theorem pw_no {i : Jvm.ClassFile.Instr} (q : x_at xMM j pc i len y nL ret) (hp : x_pure i = true) (hi : ∀ h b, ¬ x_ins vwCl x_kn x_Ts x_AO X base y.cls y.name nL i len (pc, L, st, h) b) : pw inj sk base N d X j pc L st s Ψ :=
  pw_st q hp (fun h b hR hb => absurd hb (hi h b))
theorem pw_null (q : x_at xMM j pc .aconst_null 1 y nL ret) (k : pw inj sk base N d X j (pc + 1) L (va_rf (h_rf base none) :: st) s Ψ) : pw inj sk base N d X j pc L st s Ψ := pw_pu q rfl (fun h b hb => by obtain ⟨-, rfl⟩ := hb; rfl) k
theorem pd_null (q : x_at xMM j pc .aconst_null 1 y nL ret) (k : pw inj sk base (N - 1) d X j (pc + 1) L (va_rf (h_rf base none) :: st) s Ψ) : pw inj sk base N d X j pc L st s Ψ := pw_pd q rfl (fun h b hb => by obtain ⟨-, rfl⟩ := hb; rfl) k
theorem pw_iconst {n : Int} {v : Int32} (q : x_at xMM j pc (.iconst n) 1 y nL ret) (hv : Int32.ofInt n = v) (k : pw inj sk base N d X j (pc + 1) L (.int v :: st) s Ψ) : pw inj sk base N d X j pc L st s Ψ := pw_pu q rfl (fun h b hb => by obtain ⟨-, rfl⟩ := hb; subst hv; rfl) k
theorem pd_iconst {n : Int} {v : Int32} (q : x_at xMM j pc (.iconst n) 1 y nL ret) (hv : Int32.ofInt n = v) (k : pw inj sk base (N - 1) d X j (pc + 1) L (.int v :: st) s Ψ) : pw inj sk base N d X j pc L st s Ψ := pw_pd q rfl (fun h b hb => by obtain ⟨-, rfl⟩ := hb; subst hv; rfl) k
theorem pw_bipush {n : Int} {v : Int32} (q : x_at xMM j pc (.bipush n) 2 y nL ret) (hv : (Int8.ofInt n).toInt32 = v) (k : pw inj sk base N d X j (pc + 2) L (.int v :: st) s Ψ) : pw inj sk base N d X j pc L st s Ψ := pw_pu q rfl (fun h b hb => by obtain ⟨-, rfl⟩ := hb; subst hv; rfl) k
theorem pd_bipush {n : Int} {v : Int32} (q : x_at xMM j pc (.bipush n) 2 y nL ret) (hv : (Int8.ofInt n).toInt32 = v) (k : pw inj sk base (N - 1) d X j (pc + 2) L (.int v :: st) s Ψ) : pw inj sk base N d X j pc L st s Ψ := pw_pd q rfl (fun h b hb => by obtain ⟨-, rfl⟩ := hb; subst hv; rfl) k
theorem pw_sipush {n : Int} {v : Int32} (q : x_at xMM j pc (.sipush n) 3 y nL ret) (hv : (Int16.ofInt n).toInt32 = v) (k : pw inj sk base N d X j (pc + 3) L (.int v :: st) s Ψ) : pw inj sk base N d X j pc L st s Ψ := pw_pu q rfl (fun h b hb => by obtain ⟨-, rfl⟩ := hb; subst hv; rfl) k
theorem pd_sipush {n : Int} {v : Int32} (q : x_at xMM j pc (.sipush n) 3 y nL ret) (hv : (Int16.ofInt n).toInt32 = v) (k : pw inj sk base (N - 1) d X j (pc + 3) L (.int v :: st) s Ψ) : pw inj sk base N d X j pc L st s Ψ := pw_pd q rfl (fun h b hb => by obtain ⟨-, rfl⟩ := hb; subst hv; rfl) k
theorem pw_lconst {n : Fin 2} {v : Int64} (q : x_at xMM j pc (.lconst n) 1 y nL ret) (hv : Int64.ofNat (n : Nat) = v) (k : pw inj sk base N d X j (pc + 1) L (.long v :: st) s Ψ) : pw inj sk base N d X j pc L st s Ψ := pw_pu q rfl (fun h b hb => by obtain ⟨-, rfl⟩ := hb; subst hv; rfl) k
theorem pd_lconst {n : Fin 2} {v : Int64} (q : x_at xMM j pc (.lconst n) 1 y nL ret) (hv : Int64.ofNat (n : Nat) = v) (k : pw inj sk base (N - 1) d X j (pc + 1) L (.long v :: st) s Ψ) : pw inj sk base N d X j pc L st s Ψ := pw_pd q rfl (fun h b hb => by obtain ⟨-, rfl⟩ := hb; subst hv; rfl) k
theorem pw_ldc2 {idx : Nat} {v : Int64} (q : x_at xMM j pc (.ldc2_w idx) 3 y nL ret) (hu : ∀ v2, Cond.constantLong y.cls idx v2 ∈ x_Ts → v2 = v) (k : pw inj sk base N d X j (pc + 3) L (.long v :: st) s Ψ) : pw inj sk base N d X j pc L st s Ψ := pw_pu q rfl (fun h b hb => by obtain ⟨-, v2, hc, rfl⟩ := hb; rw [hu v2 hc]; rfl) k
theorem pd_ldc2 {idx : Nat} {v : Int64} (q : x_at xMM j pc (.ldc2_w idx) 3 y nL ret) (hu : ∀ v2, Cond.constantLong y.cls idx v2 ∈ x_Ts → v2 = v) (k : pw inj sk base (N - 1) d X j (pc + 3) L (.long v :: st) s Ψ) : pw inj sk base N d X j pc L st s Ψ := pw_pd q rfl (fun h b hb => by obtain ⟨-, v2, hc, rfl⟩ := hb; rw [hu v2 hc]; rfl) k
theorem pw_iload {i : Nat} {x : Int32} (q : x_at xMM j pc (.iload i) 2 y nL ret) (hl : L.filter (fun q => q.1 == (i : Nat)) = [((i : Nat), .int x)]) (k : pw inj sk base N d X j (pc + 2) L (.int x :: st) s Ψ) : pw inj sk base N d X j pc L st s Ψ := pw_pu q rfl (fun h b hb => by obtain ⟨-, z, hm, rfl⟩ := hb; have e := x_lu hl hm; cases e; rfl) k
theorem pd_iload {i : Nat} {x : Int32} (q : x_at xMM j pc (.iload i) 2 y nL ret) (hl : L.filter (fun q => q.1 == (i : Nat)) = [((i : Nat), .int x)]) (k : pw inj sk base (N - 1) d X j (pc + 2) L (.int x :: st) s Ψ) : pw inj sk base N d X j pc L st s Ψ := pw_pd q rfl (fun h b hb => by obtain ⟨-, z, hm, rfl⟩ := hb; have e := x_lu hl hm; cases e; rfl) k
theorem pw_iloadn {i : Fin 4} {x : Int32} (q : x_at xMM j pc (.iload_n i) 1 y nL ret) (hl : L.filter (fun q => q.1 == (i : Nat)) = [((i : Nat), .int x)]) (k : pw inj sk base N d X j (pc + 1) L (.int x :: st) s Ψ) : pw inj sk base N d X j pc L st s Ψ := pw_pu q rfl (fun h b hb => by obtain ⟨-, z, hm, rfl⟩ := hb; have e := x_lu hl hm; cases e; rfl) k
theorem pd_iloadn {i : Fin 4} {x : Int32} (q : x_at xMM j pc (.iload_n i) 1 y nL ret) (hl : L.filter (fun q => q.1 == (i : Nat)) = [((i : Nat), .int x)]) (k : pw inj sk base (N - 1) d X j (pc + 1) L (.int x :: st) s Ψ) : pw inj sk base N d X j pc L st s Ψ := pw_pd q rfl (fun h b hb => by obtain ⟨-, z, hm, rfl⟩ := hb; have e := x_lu hl hm; cases e; rfl) k
theorem pw_lload {i : Nat} {x : Int64} (q : x_at xMM j pc (.lload i) 2 y nL ret) (hl : L.filter (fun q => q.1 == (i : Nat)) = [((i : Nat), .long x)]) (k : pw inj sk base N d X j (pc + 2) L (.long x :: st) s Ψ) : pw inj sk base N d X j pc L st s Ψ := pw_pu q rfl (fun h b hb => by obtain ⟨-, z, hm, rfl⟩ := hb; have e := x_lu hl hm; cases e; rfl) k
theorem pd_lload {i : Nat} {x : Int64} (q : x_at xMM j pc (.lload i) 2 y nL ret) (hl : L.filter (fun q => q.1 == (i : Nat)) = [((i : Nat), .long x)]) (k : pw inj sk base (N - 1) d X j (pc + 2) L (.long x :: st) s Ψ) : pw inj sk base N d X j pc L st s Ψ := pw_pd q rfl (fun h b hb => by obtain ⟨-, z, hm, rfl⟩ := hb; have e := x_lu hl hm; cases e; rfl) k
theorem pw_lloadn {i : Fin 4} {x : Int64} (q : x_at xMM j pc (.lload_n i) 1 y nL ret) (hl : L.filter (fun q => q.1 == (i : Nat)) = [((i : Nat), .long x)]) (k : pw inj sk base N d X j (pc + 1) L (.long x :: st) s Ψ) : pw inj sk base N d X j pc L st s Ψ := pw_pu q rfl (fun h b hb => by obtain ⟨-, z, hm, rfl⟩ := hb; have e := x_lu hl hm; cases e; rfl) k
theorem pd_lloadn {i : Fin 4} {x : Int64} (q : x_at xMM j pc (.lload_n i) 1 y nL ret) (hl : L.filter (fun q => q.1 == (i : Nat)) = [((i : Nat), .long x)]) (k : pw inj sk base (N - 1) d X j (pc + 1) L (.long x :: st) s Ψ) : pw inj sk base N d X j pc L st s Ψ := pw_pd q rfl (fun h b hb => by obtain ⟨-, z, hm, rfl⟩ := hb; have e := x_lu hl hm; cases e; rfl) k
theorem pw_aload {i : Nat} {v : Value} (q : x_at xMM j pc (.aload i) 2 y nL ret) (hl : L.filter (fun q => q.1 == (i : Nat)) = [((i : Nat), v)]) (k : pw inj sk base N d X j (pc + 2) L (v :: st) s Ψ) : pw inj sk base N d X j pc L st s Ψ := pw_pu q rfl (fun h b hb => by obtain ⟨-, z, hm, rfl⟩ := hb; have e := x_lu hl hm; subst e; rfl) k
theorem pd_aload {i : Nat} {v : Value} (q : x_at xMM j pc (.aload i) 2 y nL ret) (hl : L.filter (fun q => q.1 == (i : Nat)) = [((i : Nat), v)]) (k : pw inj sk base (N - 1) d X j (pc + 2) L (v :: st) s Ψ) : pw inj sk base N d X j pc L st s Ψ := pw_pd q rfl (fun h b hb => by obtain ⟨-, z, hm, rfl⟩ := hb; have e := x_lu hl hm; subst e; rfl) k
theorem pw_aloadn {i : Fin 4} {v : Value} (q : x_at xMM j pc (.aload_n i) 1 y nL ret) (hl : L.filter (fun q => q.1 == (i : Nat)) = [((i : Nat), v)]) (k : pw inj sk base N d X j (pc + 1) L (v :: st) s Ψ) : pw inj sk base N d X j pc L st s Ψ := pw_pu q rfl (fun h b hb => by obtain ⟨-, z, hm, rfl⟩ := hb; have e := x_lu hl hm; subst e; rfl) k
theorem pd_aloadn {i : Fin 4} {v : Value} (q : x_at xMM j pc (.aload_n i) 1 y nL ret) (hl : L.filter (fun q => q.1 == (i : Nat)) = [((i : Nat), v)]) (k : pw inj sk base (N - 1) d X j (pc + 1) L (v :: st) s Ψ) : pw inj sk base N d X j pc L st s Ψ := pw_pd q rfl (fun h b hb => by obtain ⟨-, z, hm, rfl⟩ := hb; have e := x_lu hl hm; subst e; rfl) k
theorem pw_istore {i : Nat} {x : Int32} {L2 : xL} (q : x_at xMM j pc (.istore i) 2 y nL ret) (hl : x_s1 L i (.int x) = L2) (k : pw inj sk base N d X j (pc + 2) L2 st s Ψ) : pw inj sk base N d X j pc L (.int x :: st) s Ψ := pw_pu q rfl (fun h b hb => by obtain ⟨-, -, x2, r, e, rfl⟩ := hb; cases e; subst hl; rfl) k
theorem pd_istore {i : Nat} {x : Int32} {L2 : xL} (q : x_at xMM j pc (.istore i) 2 y nL ret) (hl : x_s1 L i (.int x) = L2) (k : pw inj sk base (N - 1) d X j (pc + 2) L2 st s Ψ) : pw inj sk base N d X j pc L (.int x :: st) s Ψ := pw_pd q rfl (fun h b hb => by obtain ⟨-, -, x2, r, e, rfl⟩ := hb; cases e; subst hl; rfl) k
theorem pw_istoren {i : Fin 4} {x : Int32} {L2 : xL} (q : x_at xMM j pc (.istore_n i) 1 y nL ret) (hl : x_s1 L i (.int x) = L2) (k : pw inj sk base N d X j (pc + 1) L2 st s Ψ) : pw inj sk base N d X j pc L (.int x :: st) s Ψ := pw_pu q rfl (fun h b hb => by obtain ⟨-, -, x2, r, e, rfl⟩ := hb; cases e; subst hl; rfl) k
theorem pd_istoren {i : Fin 4} {x : Int32} {L2 : xL} (q : x_at xMM j pc (.istore_n i) 1 y nL ret) (hl : x_s1 L i (.int x) = L2) (k : pw inj sk base (N - 1) d X j (pc + 1) L2 st s Ψ) : pw inj sk base N d X j pc L (.int x :: st) s Ψ := pw_pd q rfl (fun h b hb => by obtain ⟨-, -, x2, r, e, rfl⟩ := hb; cases e; subst hl; rfl) k
theorem pw_lstore {i : Nat} {x : Int64} {L2 : xL} (q : x_at xMM j pc (.lstore i) 2 y nL ret) (hl : x_s2 L i (.long x) = L2) (k : pw inj sk base N d X j (pc + 2) L2 st s Ψ) : pw inj sk base N d X j pc L (.long x :: st) s Ψ := pw_pu q rfl (fun h b hb => by obtain ⟨-, -, x2, r, e, rfl⟩ := hb; cases e; subst hl; rfl) k
theorem pd_lstore {i : Nat} {x : Int64} {L2 : xL} (q : x_at xMM j pc (.lstore i) 2 y nL ret) (hl : x_s2 L i (.long x) = L2) (k : pw inj sk base (N - 1) d X j (pc + 2) L2 st s Ψ) : pw inj sk base N d X j pc L (.long x :: st) s Ψ := pw_pd q rfl (fun h b hb => by obtain ⟨-, -, x2, r, e, rfl⟩ := hb; cases e; subst hl; rfl) k
theorem pw_lstoren {i : Fin 4} {x : Int64} {L2 : xL} (q : x_at xMM j pc (.lstore_n i) 1 y nL ret) (hl : x_s2 L i (.long x) = L2) (k : pw inj sk base N d X j (pc + 1) L2 st s Ψ) : pw inj sk base N d X j pc L (.long x :: st) s Ψ := pw_pu q rfl (fun h b hb => by obtain ⟨-, -, x2, r, e, rfl⟩ := hb; cases e; subst hl; rfl) k
theorem pd_lstoren {i : Fin 4} {x : Int64} {L2 : xL} (q : x_at xMM j pc (.lstore_n i) 1 y nL ret) (hl : x_s2 L i (.long x) = L2) (k : pw inj sk base (N - 1) d X j (pc + 1) L2 st s Ψ) : pw inj sk base N d X j pc L (.long x :: st) s Ψ := pw_pd q rfl (fun h b hb => by obtain ⟨-, -, x2, r, e, rfl⟩ := hb; cases e; subst hl; rfl) k
theorem pw_astore {i : Nat} {v : Value} {L2 : xL} (q : x_at xMM j pc (.astore i) 2 y nL ret) (hl : x_s1 L i v = L2) (k : pw inj sk base N d X j (pc + 2) L2 st s Ψ) : pw inj sk base N d X j pc L (v :: st) s Ψ := pw_pu q rfl (fun h b hb => by obtain ⟨-, -, x2, r, e, rfl⟩ := hb; cases e; subst hl; rfl) k
theorem pd_astore {i : Nat} {v : Value} {L2 : xL} (q : x_at xMM j pc (.astore i) 2 y nL ret) (hl : x_s1 L i v = L2) (k : pw inj sk base (N - 1) d X j (pc + 2) L2 st s Ψ) : pw inj sk base N d X j pc L (v :: st) s Ψ := pw_pd q rfl (fun h b hb => by obtain ⟨-, -, x2, r, e, rfl⟩ := hb; cases e; subst hl; rfl) k
theorem pw_astoren {i : Fin 4} {v : Value} {L2 : xL} (q : x_at xMM j pc (.astore_n i) 1 y nL ret) (hl : x_s1 L i v = L2) (k : pw inj sk base N d X j (pc + 1) L2 st s Ψ) : pw inj sk base N d X j pc L (v :: st) s Ψ := pw_pu q rfl (fun h b hb => by obtain ⟨-, -, x2, r, e, rfl⟩ := hb; cases e; subst hl; rfl) k
theorem pd_astoren {i : Fin 4} {v : Value} {L2 : xL} (q : x_at xMM j pc (.astore_n i) 1 y nL ret) (hl : x_s1 L i v = L2) (k : pw inj sk base (N - 1) d X j (pc + 1) L2 st s Ψ) : pw inj sk base N d X j pc L (v :: st) s Ψ := pw_pd q rfl (fun h b hb => by obtain ⟨-, -, x2, r, e, rfl⟩ := hb; cases e; subst hl; rfl) k
theorem pw_iinc {i : Nat} {n : Int} {x v : Int32} {L2 : xL} (q : x_at xMM j pc (.iinc i n) 3 y nL ret) (hg : L.filter (fun q => q.1 == i) = [(i, .int x)]) (hv : x + Int32.ofInt n = v) (hl : x_s1 L i (.int v) = L2) (k : pw inj sk base N d X j (pc + 3) L2 st s Ψ) : pw inj sk base N d X j pc L st s Ψ := pw_pu q rfl (fun h b hb => by obtain ⟨-, -, z, hm, rfl⟩ := hb; have e := x_lu hg hm; cases e; subst hv; subst hl; rfl) k
theorem pd_iinc {i : Nat} {n : Int} {x v : Int32} {L2 : xL} (q : x_at xMM j pc (.iinc i n) 3 y nL ret) (hg : L.filter (fun q => q.1 == i) = [(i, .int x)]) (hv : x + Int32.ofInt n = v) (hl : x_s1 L i (.int v) = L2) (k : pw inj sk base (N - 1) d X j (pc + 3) L2 st s Ψ) : pw inj sk base N d X j pc L st s Ψ := pw_pd q rfl (fun h b hb => by obtain ⟨-, -, z, hm, rfl⟩ := hb; have e := x_lu hg hm; cases e; subst hv; subst hl; rfl) k
theorem pw_iadd {x y1 : Int32} (q : x_at xMM j pc .iadd 1 y nL ret) (k : pw inj sk base N d X j (pc + 1) L (.int (x + y1) :: st) s Ψ) : pw inj sk base N d X j pc L (.int y1 :: .int x :: st) s Ψ := pw_pu q rfl (fun h b hb => by obtain ⟨-, x2, y2, r, e, rfl⟩ := hb; cases e; rfl) k
theorem pd_iadd {x y1 : Int32} (q : x_at xMM j pc .iadd 1 y nL ret) (k : pw inj sk base (N - 1) d X j (pc + 1) L (.int (x + y1) :: st) s Ψ) : pw inj sk base N d X j pc L (.int y1 :: .int x :: st) s Ψ := pw_pd q rfl (fun h b hb => by obtain ⟨-, x2, y2, r, e, rfl⟩ := hb; cases e; rfl) k
theorem pw_isub {x y1 : Int32} (q : x_at xMM j pc .isub 1 y nL ret) (k : pw inj sk base N d X j (pc + 1) L (.int (x - y1) :: st) s Ψ) : pw inj sk base N d X j pc L (.int y1 :: .int x :: st) s Ψ := pw_pu q rfl (fun h b hb => by obtain ⟨-, x2, y2, r, e, rfl⟩ := hb; cases e; rfl) k
theorem pd_isub {x y1 : Int32} (q : x_at xMM j pc .isub 1 y nL ret) (k : pw inj sk base (N - 1) d X j (pc + 1) L (.int (x - y1) :: st) s Ψ) : pw inj sk base N d X j pc L (.int y1 :: .int x :: st) s Ψ := pw_pd q rfl (fun h b hb => by obtain ⟨-, x2, y2, r, e, rfl⟩ := hb; cases e; rfl) k
theorem pw_imul {x y1 : Int32} (q : x_at xMM j pc .imul 1 y nL ret) (k : pw inj sk base N d X j (pc + 1) L (.int (x * y1) :: st) s Ψ) : pw inj sk base N d X j pc L (.int y1 :: .int x :: st) s Ψ := pw_pu q rfl (fun h b hb => by obtain ⟨-, x2, y2, r, e, rfl⟩ := hb; cases e; rfl) k
theorem pd_imul {x y1 : Int32} (q : x_at xMM j pc .imul 1 y nL ret) (k : pw inj sk base (N - 1) d X j (pc + 1) L (.int (x * y1) :: st) s Ψ) : pw inj sk base N d X j pc L (.int y1 :: .int x :: st) s Ψ := pw_pd q rfl (fun h b hb => by obtain ⟨-, x2, y2, r, e, rfl⟩ := hb; cases e; rfl) k
theorem pw_iand {x y1 : Int32} (q : x_at xMM j pc .iand 1 y nL ret) (k : pw inj sk base N d X j (pc + 1) L (.int (x &&& y1) :: st) s Ψ) : pw inj sk base N d X j pc L (.int y1 :: .int x :: st) s Ψ := pw_pu q rfl (fun h b hb => by obtain ⟨-, x2, y2, r, e, rfl⟩ := hb; cases e; rfl) k
theorem pd_iand {x y1 : Int32} (q : x_at xMM j pc .iand 1 y nL ret) (k : pw inj sk base (N - 1) d X j (pc + 1) L (.int (x &&& y1) :: st) s Ψ) : pw inj sk base N d X j pc L (.int y1 :: .int x :: st) s Ψ := pw_pd q rfl (fun h b hb => by obtain ⟨-, x2, y2, r, e, rfl⟩ := hb; cases e; rfl) k
theorem pw_ior {x y1 : Int32} (q : x_at xMM j pc .ior 1 y nL ret) (k : pw inj sk base N d X j (pc + 1) L (.int (x ||| y1) :: st) s Ψ) : pw inj sk base N d X j pc L (.int y1 :: .int x :: st) s Ψ := pw_pu q rfl (fun h b hb => by obtain ⟨-, x2, y2, r, e, rfl⟩ := hb; cases e; rfl) k
theorem pd_ior {x y1 : Int32} (q : x_at xMM j pc .ior 1 y nL ret) (k : pw inj sk base (N - 1) d X j (pc + 1) L (.int (x ||| y1) :: st) s Ψ) : pw inj sk base N d X j pc L (.int y1 :: .int x :: st) s Ψ := pw_pd q rfl (fun h b hb => by obtain ⟨-, x2, y2, r, e, rfl⟩ := hb; cases e; rfl) k
theorem pw_ixor {x y1 : Int32} (q : x_at xMM j pc .ixor 1 y nL ret) (k : pw inj sk base N d X j (pc + 1) L (.int (x ^^^ y1) :: st) s Ψ) : pw inj sk base N d X j pc L (.int y1 :: .int x :: st) s Ψ := pw_pu q rfl (fun h b hb => by obtain ⟨-, x2, y2, r, e, rfl⟩ := hb; cases e; rfl) k
theorem pd_ixor {x y1 : Int32} (q : x_at xMM j pc .ixor 1 y nL ret) (k : pw inj sk base (N - 1) d X j (pc + 1) L (.int (x ^^^ y1) :: st) s Ψ) : pw inj sk base N d X j pc L (.int y1 :: .int x :: st) s Ψ := pw_pd q rfl (fun h b hb => by obtain ⟨-, x2, y2, r, e, rfl⟩ := hb; cases e; rfl) k
theorem pw_ishl {x y1 : Int32} (q : x_at xMM j pc .ishl 1 y nL ret) (k : pw inj sk base N d X j (pc + 1) L (.int (x <<< (y1 &&& 31)) :: st) s Ψ) : pw inj sk base N d X j pc L (.int y1 :: .int x :: st) s Ψ := pw_pu q rfl (fun h b hb => by obtain ⟨-, x2, y2, r, e, rfl⟩ := hb; cases e; rfl) k
theorem pd_ishl {x y1 : Int32} (q : x_at xMM j pc .ishl 1 y nL ret) (k : pw inj sk base (N - 1) d X j (pc + 1) L (.int (x <<< (y1 &&& 31)) :: st) s Ψ) : pw inj sk base N d X j pc L (.int y1 :: .int x :: st) s Ψ := pw_pd q rfl (fun h b hb => by obtain ⟨-, x2, y2, r, e, rfl⟩ := hb; cases e; rfl) k
theorem pw_ishr {x y1 : Int32} (q : x_at xMM j pc .ishr 1 y nL ret) (k : pw inj sk base N d X j (pc + 1) L (.int (x >>> (y1 &&& 31)) :: st) s Ψ) : pw inj sk base N d X j pc L (.int y1 :: .int x :: st) s Ψ := pw_pu q rfl (fun h b hb => by obtain ⟨-, x2, y2, r, e, rfl⟩ := hb; cases e; rfl) k
theorem pd_ishr {x y1 : Int32} (q : x_at xMM j pc .ishr 1 y nL ret) (k : pw inj sk base (N - 1) d X j (pc + 1) L (.int (x >>> (y1 &&& 31)) :: st) s Ψ) : pw inj sk base N d X j pc L (.int y1 :: .int x :: st) s Ψ := pw_pd q rfl (fun h b hb => by obtain ⟨-, x2, y2, r, e, rfl⟩ := hb; cases e; rfl) k
theorem pw_iushr {x y1 : Int32} (q : x_at xMM j pc .iushr 1 y nL ret) (k : pw inj sk base N d X j (pc + 1) L (.int ((x.toUInt32 >>> (y1.toUInt32 &&& Int32.toUInt32 31)).toInt32) :: st) s Ψ) : pw inj sk base N d X j pc L (.int y1 :: .int x :: st) s Ψ := pw_pu q rfl (fun h b hb => by obtain ⟨-, x2, y2, r, e, rfl⟩ := hb; cases e; rfl) k
theorem pd_iushr {x y1 : Int32} (q : x_at xMM j pc .iushr 1 y nL ret) (k : pw inj sk base (N - 1) d X j (pc + 1) L (.int ((x.toUInt32 >>> (y1.toUInt32 &&& Int32.toUInt32 31)).toInt32) :: st) s Ψ) : pw inj sk base N d X j pc L (.int y1 :: .int x :: st) s Ψ := pw_pd q rfl (fun h b hb => by obtain ⟨-, x2, y2, r, e, rfl⟩ := hb; cases e; rfl) k
theorem pw_ladd {x y1 : Int64} (q : x_at xMM j pc .ladd 1 y nL ret) (k : pw inj sk base N d X j (pc + 1) L (.long (x + y1) :: st) s Ψ) : pw inj sk base N d X j pc L (.long y1 :: .long x :: st) s Ψ := pw_pu q rfl (fun h b hb => by obtain ⟨-, x2, y2, r, e, rfl⟩ := hb; cases e; rfl) k
theorem pd_ladd {x y1 : Int64} (q : x_at xMM j pc .ladd 1 y nL ret) (k : pw inj sk base (N - 1) d X j (pc + 1) L (.long (x + y1) :: st) s Ψ) : pw inj sk base N d X j pc L (.long y1 :: .long x :: st) s Ψ := pw_pd q rfl (fun h b hb => by obtain ⟨-, x2, y2, r, e, rfl⟩ := hb; cases e; rfl) k
theorem pw_lsub {x y1 : Int64} (q : x_at xMM j pc .lsub 1 y nL ret) (k : pw inj sk base N d X j (pc + 1) L (.long (x - y1) :: st) s Ψ) : pw inj sk base N d X j pc L (.long y1 :: .long x :: st) s Ψ := pw_pu q rfl (fun h b hb => by obtain ⟨-, x2, y2, r, e, rfl⟩ := hb; cases e; rfl) k
theorem pd_lsub {x y1 : Int64} (q : x_at xMM j pc .lsub 1 y nL ret) (k : pw inj sk base (N - 1) d X j (pc + 1) L (.long (x - y1) :: st) s Ψ) : pw inj sk base N d X j pc L (.long y1 :: .long x :: st) s Ψ := pw_pd q rfl (fun h b hb => by obtain ⟨-, x2, y2, r, e, rfl⟩ := hb; cases e; rfl) k
theorem pw_lmul {x y1 : Int64} (q : x_at xMM j pc .lmul 1 y nL ret) (k : pw inj sk base N d X j (pc + 1) L (.long (x * y1) :: st) s Ψ) : pw inj sk base N d X j pc L (.long y1 :: .long x :: st) s Ψ := pw_pu q rfl (fun h b hb => by obtain ⟨-, x2, y2, r, e, rfl⟩ := hb; cases e; rfl) k
theorem pd_lmul {x y1 : Int64} (q : x_at xMM j pc .lmul 1 y nL ret) (k : pw inj sk base (N - 1) d X j (pc + 1) L (.long (x * y1) :: st) s Ψ) : pw inj sk base N d X j pc L (.long y1 :: .long x :: st) s Ψ := pw_pd q rfl (fun h b hb => by obtain ⟨-, x2, y2, r, e, rfl⟩ := hb; cases e; rfl) k
theorem pw_land {x y1 : Int64} (q : x_at xMM j pc .land 1 y nL ret) (k : pw inj sk base N d X j (pc + 1) L (.long (x &&& y1) :: st) s Ψ) : pw inj sk base N d X j pc L (.long y1 :: .long x :: st) s Ψ := pw_pu q rfl (fun h b hb => by obtain ⟨-, x2, y2, r, e, rfl⟩ := hb; cases e; rfl) k
theorem pd_land {x y1 : Int64} (q : x_at xMM j pc .land 1 y nL ret) (k : pw inj sk base (N - 1) d X j (pc + 1) L (.long (x &&& y1) :: st) s Ψ) : pw inj sk base N d X j pc L (.long y1 :: .long x :: st) s Ψ := pw_pd q rfl (fun h b hb => by obtain ⟨-, x2, y2, r, e, rfl⟩ := hb; cases e; rfl) k
theorem pw_lor {x y1 : Int64} (q : x_at xMM j pc .lor 1 y nL ret) (k : pw inj sk base N d X j (pc + 1) L (.long (x ||| y1) :: st) s Ψ) : pw inj sk base N d X j pc L (.long y1 :: .long x :: st) s Ψ := pw_pu q rfl (fun h b hb => by obtain ⟨-, x2, y2, r, e, rfl⟩ := hb; cases e; rfl) k
theorem pd_lor {x y1 : Int64} (q : x_at xMM j pc .lor 1 y nL ret) (k : pw inj sk base (N - 1) d X j (pc + 1) L (.long (x ||| y1) :: st) s Ψ) : pw inj sk base N d X j pc L (.long y1 :: .long x :: st) s Ψ := pw_pd q rfl (fun h b hb => by obtain ⟨-, x2, y2, r, e, rfl⟩ := hb; cases e; rfl) k
theorem pw_lxor {x y1 : Int64} (q : x_at xMM j pc .lxor 1 y nL ret) (k : pw inj sk base N d X j (pc + 1) L (.long (x ^^^ y1) :: st) s Ψ) : pw inj sk base N d X j pc L (.long y1 :: .long x :: st) s Ψ := pw_pu q rfl (fun h b hb => by obtain ⟨-, x2, y2, r, e, rfl⟩ := hb; cases e; rfl) k
theorem pd_lxor {x y1 : Int64} (q : x_at xMM j pc .lxor 1 y nL ret) (k : pw inj sk base (N - 1) d X j (pc + 1) L (.long (x ^^^ y1) :: st) s Ψ) : pw inj sk base N d X j pc L (.long y1 :: .long x :: st) s Ψ := pw_pd q rfl (fun h b hb => by obtain ⟨-, x2, y2, r, e, rfl⟩ := hb; cases e; rfl) k
theorem pw_lshl {x : Int64} {y1 : Int32} (q : x_at xMM j pc .lshl 1 y nL ret) (k : pw inj sk base N d X j (pc + 1) L (.long (x <<< (y1.toInt64 &&& 63)) :: st) s Ψ) : pw inj sk base N d X j pc L (.int y1 :: .long x :: st) s Ψ := pw_pu q rfl (fun h b hb => by obtain ⟨-, x2, y2, r, e, rfl⟩ := hb; cases e; rfl) k
theorem pd_lshl {x : Int64} {y1 : Int32} (q : x_at xMM j pc .lshl 1 y nL ret) (k : pw inj sk base (N - 1) d X j (pc + 1) L (.long (x <<< (y1.toInt64 &&& 63)) :: st) s Ψ) : pw inj sk base N d X j pc L (.int y1 :: .long x :: st) s Ψ := pw_pd q rfl (fun h b hb => by obtain ⟨-, x2, y2, r, e, rfl⟩ := hb; cases e; rfl) k
theorem pw_lshr {x : Int64} {y1 : Int32} (q : x_at xMM j pc .lshr 1 y nL ret) (k : pw inj sk base N d X j (pc + 1) L (.long (x >>> (y1.toInt64 &&& 63)) :: st) s Ψ) : pw inj sk base N d X j pc L (.int y1 :: .long x :: st) s Ψ := pw_pu q rfl (fun h b hb => by obtain ⟨-, x2, y2, r, e, rfl⟩ := hb; cases e; rfl) k
theorem pd_lshr {x : Int64} {y1 : Int32} (q : x_at xMM j pc .lshr 1 y nL ret) (k : pw inj sk base (N - 1) d X j (pc + 1) L (.long (x >>> (y1.toInt64 &&& 63)) :: st) s Ψ) : pw inj sk base N d X j pc L (.int y1 :: .long x :: st) s Ψ := pw_pd q rfl (fun h b hb => by obtain ⟨-, x2, y2, r, e, rfl⟩ := hb; cases e; rfl) k
theorem pw_lushr {x : Int64} {y1 : Int32} (q : x_at xMM j pc .lushr 1 y nL ret) (k : pw inj sk base N d X j (pc + 1) L (.long ((x.toUInt64 >>> (y1.toInt64.toUInt64 &&& Int64.toUInt64 63)).toInt64) :: st) s Ψ) : pw inj sk base N d X j pc L (.int y1 :: .long x :: st) s Ψ := pw_pu q rfl (fun h b hb => by obtain ⟨-, x2, y2, r, e, rfl⟩ := hb; cases e; rfl) k
theorem pd_lushr {x : Int64} {y1 : Int32} (q : x_at xMM j pc .lushr 1 y nL ret) (k : pw inj sk base (N - 1) d X j (pc + 1) L (.long ((x.toUInt64 >>> (y1.toInt64.toUInt64 &&& Int64.toUInt64 63)).toInt64) :: st) s Ψ) : pw inj sk base N d X j pc L (.int y1 :: .long x :: st) s Ψ := pw_pd q rfl (fun h b hb => by obtain ⟨-, x2, y2, r, e, rfl⟩ := hb; cases e; rfl) k
theorem pw_ineg {x : Int32} (q : x_at xMM j pc .ineg 1 y nL ret) (k : pw inj sk base N d X j (pc + 1) L (.int (-x) :: st) s Ψ) : pw inj sk base N d X j pc L (.int x :: st) s Ψ := pw_pu q rfl (fun h b hb => by obtain ⟨-, x2, r, e, rfl⟩ := hb; cases e; rfl) k
theorem pd_ineg {x : Int32} (q : x_at xMM j pc .ineg 1 y nL ret) (k : pw inj sk base (N - 1) d X j (pc + 1) L (.int (-x) :: st) s Ψ) : pw inj sk base N d X j pc L (.int x :: st) s Ψ := pw_pd q rfl (fun h b hb => by obtain ⟨-, x2, r, e, rfl⟩ := hb; cases e; rfl) k
theorem pw_lneg {x : Int64} (q : x_at xMM j pc .lneg 1 y nL ret) (k : pw inj sk base N d X j (pc + 1) L (.long (-x) :: st) s Ψ) : pw inj sk base N d X j pc L (.long x :: st) s Ψ := pw_pu q rfl (fun h b hb => by obtain ⟨-, x2, r, e, rfl⟩ := hb; cases e; rfl) k
theorem pd_lneg {x : Int64} (q : x_at xMM j pc .lneg 1 y nL ret) (k : pw inj sk base (N - 1) d X j (pc + 1) L (.long (-x) :: st) s Ψ) : pw inj sk base N d X j pc L (.long x :: st) s Ψ := pw_pd q rfl (fun h b hb => by obtain ⟨-, x2, r, e, rfl⟩ := hb; cases e; rfl) k
theorem pw_lcmp {x y1 : Int64} (q : x_at xMM j pc .lcmp 1 y nL ret) (k : pw inj sk base N d X j (pc + 1) L (.int (lg_cmp x y1) :: st) s Ψ) : pw inj sk base N d X j pc L (.long y1 :: .long x :: st) s Ψ := pw_pu q rfl (fun h b hb => by obtain ⟨-, x2, y2, r, e, rfl⟩ := hb; cases e; rfl) k
theorem pd_lcmp {x y1 : Int64} (q : x_at xMM j pc .lcmp 1 y nL ret) (k : pw inj sk base (N - 1) d X j (pc + 1) L (.int (lg_cmp x y1) :: st) s Ψ) : pw inj sk base N d X j pc L (.long y1 :: .long x :: st) s Ψ := pw_pd q rfl (fun h b hb => by obtain ⟨-, x2, y2, r, e, rfl⟩ := hb; cases e; rfl) k
theorem pw_i2l {x : Int32} (q : x_at xMM j pc .i2l 1 y nL ret) (k : pw inj sk base N d X j (pc + 1) L (.long x.toInt64 :: st) s Ψ) : pw inj sk base N d X j pc L (.int x :: st) s Ψ := pw_pu q rfl (fun h b hb => by obtain ⟨-, x2, r, e, rfl⟩ := hb; cases e; rfl) k
theorem pd_i2l {x : Int32} (q : x_at xMM j pc .i2l 1 y nL ret) (k : pw inj sk base (N - 1) d X j (pc + 1) L (.long x.toInt64 :: st) s Ψ) : pw inj sk base N d X j pc L (.int x :: st) s Ψ := pw_pd q rfl (fun h b hb => by obtain ⟨-, x2, r, e, rfl⟩ := hb; cases e; rfl) k
theorem pw_l2i {x : Int64} (q : x_at xMM j pc .l2i 1 y nL ret) (k : pw inj sk base N d X j (pc + 1) L (.int x.toInt32 :: st) s Ψ) : pw inj sk base N d X j pc L (.long x :: st) s Ψ := pw_pu q rfl (fun h b hb => by obtain ⟨-, x2, r, e, rfl⟩ := hb; cases e; rfl) k
theorem pd_l2i {x : Int64} (q : x_at xMM j pc .l2i 1 y nL ret) (k : pw inj sk base (N - 1) d X j (pc + 1) L (.int x.toInt32 :: st) s Ψ) : pw inj sk base N d X j pc L (.long x :: st) s Ψ := pw_pd q rfl (fun h b hb => by obtain ⟨-, x2, r, e, rfl⟩ := hb; cases e; rfl) k
theorem pw_i2c {x : Int32} (q : x_at xMM j pc .i2c 1 y nL ret) (k : pw inj sk base N d X j (pc + 1) L (.int (x.toUInt32 % 65536).toInt32 :: st) s Ψ) : pw inj sk base N d X j pc L (.int x :: st) s Ψ := pw_pu q rfl (fun h b hb => by obtain ⟨-, x2, r, e, rfl⟩ := hb; cases e; rfl) k
theorem pd_i2c {x : Int32} (q : x_at xMM j pc .i2c 1 y nL ret) (k : pw inj sk base (N - 1) d X j (pc + 1) L (.int (x.toUInt32 % 65536).toInt32 :: st) s Ψ) : pw inj sk base N d X j pc L (.int x :: st) s Ψ := pw_pd q rfl (fun h b hb => by obtain ⟨-, x2, r, e, rfl⟩ := hb; cases e; rfl) k
theorem pw_dup {v : Value} (q : x_at xMM j pc .dup 1 y nL ret) (k : pw inj sk base N d X j (pc + 1) L (v :: v :: st) s Ψ) : pw inj sk base N d X j pc L (v :: st) s Ψ := pw_pu q rfl (fun h b hb => by obtain ⟨-, v2, r, -, e, rfl⟩ := hb; cases e; rfl) k
theorem pd_dup {v : Value} (q : x_at xMM j pc .dup 1 y nL ret) (k : pw inj sk base (N - 1) d X j (pc + 1) L (v :: v :: st) s Ψ) : pw inj sk base N d X j pc L (v :: st) s Ψ := pw_pd q rfl (fun h b hb => by obtain ⟨-, v2, r, -, e, rfl⟩ := hb; cases e; rfl) k
theorem pw_dup2 {v w : Value} (q : x_at xMM j pc .dup2 1 y nL ret) (k : pw inj sk base N d X j (pc + 1) L (v :: w :: v :: w :: st) s Ψ) : pw inj sk base N d X j pc L (v :: w :: st) s Ψ := pw_pu q rfl (fun h b hb => by obtain ⟨-, v2, w2, r, -, -, e, rfl⟩ := hb; cases e; rfl) k
theorem pd_dup2 {v w : Value} (q : x_at xMM j pc .dup2 1 y nL ret) (k : pw inj sk base (N - 1) d X j (pc + 1) L (v :: w :: v :: w :: st) s Ψ) : pw inj sk base N d X j pc L (v :: w :: st) s Ψ := pw_pd q rfl (fun h b hb => by obtain ⟨-, v2, w2, r, -, -, e, rfl⟩ := hb; cases e; rfl) k
theorem pw_pop {v : Value} (q : x_at xMM j pc .pop 1 y nL ret) (k : pw inj sk base N d X j (pc + 1) L st s Ψ) : pw inj sk base N d X j pc L (v :: st) s Ψ := pw_pu q rfl (fun h b hb => by obtain ⟨-, v2, r, -, e, rfl⟩ := hb; cases e; rfl) k
theorem pd_pop {v : Value} (q : x_at xMM j pc .pop 1 y nL ret) (k : pw inj sk base (N - 1) d X j (pc + 1) L st s Ψ) : pw inj sk base N d X j pc L (v :: st) s Ψ := pw_pd q rfl (fun h b hb => by obtain ⟨-, v2, r, -, e, rfl⟩ := hb; cases e; rfl) k
theorem pw_pop2 {v : Value} (q : x_at xMM j pc .pop2 1 y nL ret) (k : pw inj sk base N d X j (pc + 1) L st s Ψ) : pw inj sk base N d X j pc L (v :: st) s Ψ := pw_pu q rfl (fun h b hb => by obtain ⟨-, v2, r, -, e, rfl⟩ := hb; cases e; rfl) k
theorem pd_pop2 {v : Value} (q : x_at xMM j pc .pop2 1 y nL ret) (k : pw inj sk base (N - 1) d X j (pc + 1) L st s Ψ) : pw inj sk base N d X j pc L (v :: st) s Ψ := pw_pd q rfl (fun h b hb => by obtain ⟨-, v2, r, -, e, rfl⟩ := hb; cases e; rfl) k
theorem pw_goto {off : Int} {tgt : Nat} (q : x_at xMM j pc (.goto off) 3 y nL ret) (ht : (pc : Int) + off = (tgt : Int)) (k : pw inj sk base N d X j tgt L st s Ψ) : pw inj sk base N d X j pc L st s Ψ := pw_pu q rfl (fun h b hb => by obtain ⟨-, t2, ht2, rfl⟩ := hb; have e2 : t2 = tgt := (by dsimp only at ht2; omega); subst e2; rfl) k
theorem pd_goto {off : Int} {tgt : Nat} (q : x_at xMM j pc (.goto off) 3 y nL ret) (ht : (pc : Int) + off = (tgt : Int)) (k : pw inj sk base (N - 1) d X j tgt L st s Ψ) : pw inj sk base N d X j pc L st s Ψ := pw_pd q rfl (fun h b hb => by obtain ⟨-, t2, ht2, rfl⟩ := hb; have e2 : t2 = tgt := (by dsimp only at ht2; omega); subst e2; rfl) k
theorem pw_idiv {x y1 : Int32} (q : x_at xMM j pc .idiv 1 y nL ret) (k : ¬ y1 = 0 → pw inj sk base N d X j (pc + 1) L (.int (x / y1) :: st) s A) : pw inj sk base N d X j pc L (.int y1 :: .int x :: st) s (P_and (¬ y1 = 0) A) := pw_pg q rfl (fun h b hb => by obtain ⟨-, x2, y2, r, h0, e, rfl⟩ := hb; cases e; exact ⟨h0, rfl⟩) k
theorem pw_irem {x y1 : Int32} (q : x_at xMM j pc .irem 1 y nL ret) (k : ¬ y1 = 0 → pw inj sk base N d X j (pc + 1) L (.int (x - x / y1 * y1) :: st) s A) : pw inj sk base N d X j pc L (.int y1 :: .int x :: st) s (P_and (¬ y1 = 0) A) := pw_pg q rfl (fun h b hb => by obtain ⟨-, x2, y2, r, h0, e, rfl⟩ := hb; cases e; exact ⟨h0, rfl⟩) k
theorem pw_ldiv {x y1 : Int64} (q : x_at xMM j pc .ldiv 1 y nL ret) (k : ¬ y1 = 0 → pw inj sk base N d X j (pc + 1) L (.long (x / y1) :: st) s A) : pw inj sk base N d X j pc L (.long y1 :: .long x :: st) s (P_and (¬ y1 = 0) A) := pw_pg q rfl (fun h b hb => by obtain ⟨-, x2, y2, r, h0, e, rfl⟩ := hb; cases e; exact ⟨h0, rfl⟩) k
theorem pw_lrem {x y1 : Int64} (q : x_at xMM j pc .lrem 1 y nL ret) (k : ¬ y1 = 0 → pw inj sk base N d X j (pc + 1) L (.long (x - x / y1 * y1) :: st) s A) : pw inj sk base N d X j pc L (.long y1 :: .long x :: st) s (P_and (¬ y1 = 0) A) := pw_pg q rfl (fun h b hb => by obtain ⟨-, x2, y2, r, h0, e, rfl⟩ := hb; cases e; exact ⟨h0, rfl⟩) k
theorem c0_eq (x : Int32) : x = 0 ↔ x.toInt = 0 := ⟨fun h => by rw [h]; rfl, fun h => i_eqv h⟩
theorem c0_lt (x : Int32) : x < 0 ↔ x.toInt < 0 := by rw [Int32.lt_iff_toInt_lt]; rfl
theorem c0_gt (x : Int32) : 0 < x ↔ 0 < x.toInt := by rw [Int32.lt_iff_toInt_lt]; rfl
theorem c0_ge (x : Int32) : 0 ≤ x ↔ ¬ x.toInt < 0 := by rw [Int32.le_iff_toInt_le, Int.not_lt]; rfl
theorem c0_le (x : Int32) : x ≤ 0 ↔ ¬ 0 < x.toInt := by rw [Int32.le_iff_toInt_le, Int.not_lt]; rfl
theorem c2_eq (x y : Int32) : x = y ↔ x.toInt = y.toInt := ⟨fun h => by rw [h], fun h => i_eqv h⟩
theorem c2_lt (x y : Int32) : x < y ↔ x.toInt < y.toInt := Int32.lt_iff_toInt_lt
theorem c2_ge (x y : Int32) : y ≤ x ↔ ¬ x.toInt < y.toInt := by rw [Int32.le_iff_toInt_le, Int.not_lt]
theorem c2_le (x y : Int32) : x ≤ y ↔ ¬ y.toInt < x.toInt := by rw [Int32.le_iff_toInt_le, Int.not_lt]
theorem pw_ifeq {x : Int32} {off : Int} {tgt : Nat} (q : x_at xMM j pc (.ifCond .eq off) 3 y nL ret) (ht : (pc : Int) + off = (tgt : Int)) (kt : x.toInt = 0 → pw inj sk base N d X j tgt L st s A) (kf : ¬ x.toInt = 0 → pw inj sk base N d X j (pc + 3) L st s B) : pw inj sk base N d X j pc L (.int x :: st) s (P_if (x.toInt = 0) A B) := pw_br q rfl (fun h b hb => by { obtain ⟨-, x2, r, t2, e, ht2, hb⟩ := hb; cases e; dsimp only at ht2; have e2 : t2 = tgt := (by omega); rcases hb with ⟨h1, rfl⟩ | ⟨h1, rfl⟩; { exact Or.inl ⟨(c0_eq x).mp h1, by rw [e2]; rfl⟩ }; { exact Or.inr ⟨fun z => h1 ((c0_eq x).mpr z), rfl⟩ } }) kt kf
theorem pw_ifne {x : Int32} {off : Int} {tgt : Nat} (q : x_at xMM j pc (.ifCond .ne off) 3 y nL ret) (ht : (pc : Int) + off = (tgt : Int)) (kt : x.toInt = 0 → pw inj sk base N d X j (pc + 3) L st s A) (kf : ¬ x.toInt = 0 → pw inj sk base N d X j tgt L st s B) : pw inj sk base N d X j pc L (.int x :: st) s (P_if (x.toInt = 0) A B) := pw_br q rfl (fun h b hb => by { obtain ⟨-, x2, r, t2, e, ht2, hb⟩ := hb; cases e; dsimp only at ht2; have e2 : t2 = tgt := (by omega); rcases hb with ⟨h1, rfl⟩ | ⟨h1, rfl⟩; { exact Or.inr ⟨fun z => h1 ((c0_eq x).mpr z), by rw [e2]; rfl⟩ }; { exact Or.inl ⟨(c0_eq x).mp (Classical.not_not.mp h1), rfl⟩ } }) kt kf
theorem pw_iflt {x : Int32} {off : Int} {tgt : Nat} (q : x_at xMM j pc (.ifCond .lt off) 3 y nL ret) (ht : (pc : Int) + off = (tgt : Int)) (kt : x.toInt < 0 → pw inj sk base N d X j tgt L st s A) (kf : ¬ x.toInt < 0 → pw inj sk base N d X j (pc + 3) L st s B) : pw inj sk base N d X j pc L (.int x :: st) s (P_if (x.toInt < 0) A B) := pw_br q rfl (fun h b hb => by { obtain ⟨-, x2, r, t2, e, ht2, hb⟩ := hb; cases e; dsimp only at ht2; have e2 : t2 = tgt := (by omega); rcases hb with ⟨h1, rfl⟩ | ⟨h1, rfl⟩; { exact Or.inl ⟨(c0_lt x).mp h1, by rw [e2]; rfl⟩ }; { exact Or.inr ⟨fun z => h1 ((c0_lt x).mpr z), rfl⟩ } }) kt kf
theorem pw_ifge {x : Int32} {off : Int} {tgt : Nat} (q : x_at xMM j pc (.ifCond .ge off) 3 y nL ret) (ht : (pc : Int) + off = (tgt : Int)) (kt : x.toInt < 0 → pw inj sk base N d X j (pc + 3) L st s A) (kf : ¬ x.toInt < 0 → pw inj sk base N d X j tgt L st s B) : pw inj sk base N d X j pc L (.int x :: st) s (P_if (x.toInt < 0) A B) := pw_br q rfl (fun h b hb => by { obtain ⟨-, x2, r, t2, e, ht2, hb⟩ := hb; cases e; dsimp only at ht2; have e2 : t2 = tgt := (by omega); rcases hb with ⟨h1, rfl⟩ | ⟨h1, rfl⟩; { exact Or.inr ⟨(c0_ge x).mp h1, by rw [e2]; rfl⟩ }; { exact Or.inl ⟨Classical.not_not.mp (fun z => h1 ((c0_ge x).mpr z)), rfl⟩ } }) kt kf
theorem pw_ifgt {x : Int32} {off : Int} {tgt : Nat} (q : x_at xMM j pc (.ifCond .gt off) 3 y nL ret) (ht : (pc : Int) + off = (tgt : Int)) (kt : 0 < x.toInt → pw inj sk base N d X j tgt L st s A) (kf : ¬ 0 < x.toInt → pw inj sk base N d X j (pc + 3) L st s B) : pw inj sk base N d X j pc L (.int x :: st) s (P_if (0 < x.toInt) A B) := pw_br q rfl (fun h b hb => by { obtain ⟨-, x2, r, t2, e, ht2, hb⟩ := hb; cases e; dsimp only at ht2; have e2 : t2 = tgt := (by omega); rcases hb with ⟨h1, rfl⟩ | ⟨h1, rfl⟩; { exact Or.inl ⟨(c0_gt x).mp h1, by rw [e2]; rfl⟩ }; { exact Or.inr ⟨fun z => h1 ((c0_gt x).mpr z), rfl⟩ } }) kt kf
theorem pw_ifle {x : Int32} {off : Int} {tgt : Nat} (q : x_at xMM j pc (.ifCond .le off) 3 y nL ret) (ht : (pc : Int) + off = (tgt : Int)) (kt : 0 < x.toInt → pw inj sk base N d X j (pc + 3) L st s A) (kf : ¬ 0 < x.toInt → pw inj sk base N d X j tgt L st s B) : pw inj sk base N d X j pc L (.int x :: st) s (P_if (0 < x.toInt) A B) := pw_br q rfl (fun h b hb => by { obtain ⟨-, x2, r, t2, e, ht2, hb⟩ := hb; cases e; dsimp only at ht2; have e2 : t2 = tgt := (by omega); rcases hb with ⟨h1, rfl⟩ | ⟨h1, rfl⟩; { exact Or.inr ⟨(c0_le x).mp h1, by rw [e2]; rfl⟩ }; { exact Or.inl ⟨Classical.not_not.mp (fun z => h1 ((c0_le x).mpr z)), rfl⟩ } }) kt kf
theorem pw_iceq {x y1 : Int32} {off : Int} {tgt : Nat} (q : x_at xMM j pc (.if_icmp .eq off) 3 y nL ret) (ht : (pc : Int) + off = (tgt : Int)) (kt : x.toInt = y1.toInt → pw inj sk base N d X j tgt L st s A) (kf : ¬ x.toInt = y1.toInt → pw inj sk base N d X j (pc + 3) L st s B) : pw inj sk base N d X j pc L (.int y1 :: .int x :: st) s (P_if (x.toInt = y1.toInt) A B) := pw_br q rfl (fun h b hb => by { obtain ⟨-, x2, y2, r, t2, e, ht2, hb⟩ := hb; cases e; dsimp only at ht2; have e2 : t2 = tgt := (by omega); rcases hb with ⟨h1, rfl⟩ | ⟨h1, rfl⟩; { exact Or.inl ⟨(c2_eq x y1).mp h1, by rw [e2]; rfl⟩ }; { exact Or.inr ⟨fun z => h1 ((c2_eq x y1).mpr z), rfl⟩ } }) kt kf
theorem pw_icne {x y1 : Int32} {off : Int} {tgt : Nat} (q : x_at xMM j pc (.if_icmp .ne off) 3 y nL ret) (ht : (pc : Int) + off = (tgt : Int)) (kt : x.toInt = y1.toInt → pw inj sk base N d X j (pc + 3) L st s A) (kf : ¬ x.toInt = y1.toInt → pw inj sk base N d X j tgt L st s B) : pw inj sk base N d X j pc L (.int y1 :: .int x :: st) s (P_if (x.toInt = y1.toInt) A B) := pw_br q rfl (fun h b hb => by { obtain ⟨-, x2, y2, r, t2, e, ht2, hb⟩ := hb; cases e; dsimp only at ht2; have e2 : t2 = tgt := (by omega); rcases hb with ⟨h1, rfl⟩ | ⟨h1, rfl⟩; { exact Or.inr ⟨fun z => h1 ((c2_eq x y1).mpr z), by rw [e2]; rfl⟩ }; { exact Or.inl ⟨(c2_eq x y1).mp (Classical.not_not.mp h1), rfl⟩ } }) kt kf
theorem pw_iclt {x y1 : Int32} {off : Int} {tgt : Nat} (q : x_at xMM j pc (.if_icmp .lt off) 3 y nL ret) (ht : (pc : Int) + off = (tgt : Int)) (kt : x.toInt < y1.toInt → pw inj sk base N d X j tgt L st s A) (kf : ¬ x.toInt < y1.toInt → pw inj sk base N d X j (pc + 3) L st s B) : pw inj sk base N d X j pc L (.int y1 :: .int x :: st) s (P_if (x.toInt < y1.toInt) A B) := pw_br q rfl (fun h b hb => by { obtain ⟨-, x2, y2, r, t2, e, ht2, hb⟩ := hb; cases e; dsimp only at ht2; have e2 : t2 = tgt := (by omega); rcases hb with ⟨h1, rfl⟩ | ⟨h1, rfl⟩; { exact Or.inl ⟨(c2_lt x y1).mp h1, by rw [e2]; rfl⟩ }; { exact Or.inr ⟨fun z => h1 ((c2_lt x y1).mpr z), rfl⟩ } }) kt kf
theorem pw_icge {x y1 : Int32} {off : Int} {tgt : Nat} (q : x_at xMM j pc (.if_icmp .ge off) 3 y nL ret) (ht : (pc : Int) + off = (tgt : Int)) (kt : x.toInt < y1.toInt → pw inj sk base N d X j (pc + 3) L st s A) (kf : ¬ x.toInt < y1.toInt → pw inj sk base N d X j tgt L st s B) : pw inj sk base N d X j pc L (.int y1 :: .int x :: st) s (P_if (x.toInt < y1.toInt) A B) := pw_br q rfl (fun h b hb => by { obtain ⟨-, x2, y2, r, t2, e, ht2, hb⟩ := hb; cases e; dsimp only at ht2; have e2 : t2 = tgt := (by omega); rcases hb with ⟨h1, rfl⟩ | ⟨h1, rfl⟩; { exact Or.inr ⟨(c2_ge x y1).mp h1, by rw [e2]; rfl⟩ }; { exact Or.inl ⟨Classical.not_not.mp (fun z => h1 ((c2_ge x y1).mpr z)), rfl⟩ } }) kt kf
theorem pw_icgt {x y1 : Int32} {off : Int} {tgt : Nat} (q : x_at xMM j pc (.if_icmp .gt off) 3 y nL ret) (ht : (pc : Int) + off = (tgt : Int)) (kt : y1.toInt < x.toInt → pw inj sk base N d X j tgt L st s A) (kf : ¬ y1.toInt < x.toInt → pw inj sk base N d X j (pc + 3) L st s B) : pw inj sk base N d X j pc L (.int y1 :: .int x :: st) s (P_if (y1.toInt < x.toInt) A B) := pw_br q rfl (fun h b hb => by { obtain ⟨-, x2, y2, r, t2, e, ht2, hb⟩ := hb; cases e; dsimp only at ht2; have e2 : t2 = tgt := (by omega); rcases hb with ⟨h1, rfl⟩ | ⟨h1, rfl⟩; { exact Or.inl ⟨(c2_lt y1 x).mp h1, by rw [e2]; rfl⟩ }; { exact Or.inr ⟨fun z => h1 ((c2_lt y1 x).mpr z), rfl⟩ } }) kt kf
theorem pw_icle {x y1 : Int32} {off : Int} {tgt : Nat} (q : x_at xMM j pc (.if_icmp .le off) 3 y nL ret) (ht : (pc : Int) + off = (tgt : Int)) (kt : y1.toInt < x.toInt → pw inj sk base N d X j (pc + 3) L st s A) (kf : ¬ y1.toInt < x.toInt → pw inj sk base N d X j tgt L st s B) : pw inj sk base N d X j pc L (.int y1 :: .int x :: st) s (P_if (y1.toInt < x.toInt) A B) := pw_br q rfl (fun h b hb => by { obtain ⟨-, x2, y2, r, t2, e, ht2, hb⟩ := hb; cases e; dsimp only at ht2; have e2 : t2 = tgt := (by omega); rcases hb with ⟨h1, rfl⟩ | ⟨h1, rfl⟩; { exact Or.inr ⟨(c2_le x y1).mp h1, by rw [e2]; rfl⟩ }; { exact Or.inl ⟨Classical.not_not.mp (fun z => h1 ((c2_le x y1).mpr z)), rfl⟩ } }) kt kf
theorem pw_lceq {x y1 : Int64} {off : Int} {tgt : Nat} (q1 : x_at xMM j pc .lcmp 1 y nL ret) (q : x_at xMM j (pc + 1) (.ifCond .eq off) 3 y nL ret) (ht : ((pc + 1 : Nat) : Int) + off = (tgt : Int)) (kt : x.toInt = y1.toInt → pw inj sk base N d X j tgt L st s A) (kf : ¬ x.toInt = y1.toInt → pw inj sk base N d X j (pc + 1 + 3) L st s B) : pw inj sk base N d X j pc L (.long y1 :: .long x :: st) s (P_if (x.toInt = y1.toInt) A B) := by
  have h3 := lg_cmp3 x y1
  have hc : (lg_cmp x y1).toInt = 0 ↔ x.toInt = y1.toInt := by split at h3 <;> (try split at h3) <;> omega
  refine pw_lcmp q1 (pw_cons (pw_ifeq (A := A) (B := B) q ht (fun h => kt (hc.mp h)) (fun h => kf (fun z => h (hc.mpr z)))) (fun v s hv => ?_))
  rcases hv with ⟨h1, h2⟩ | ⟨h1, h2⟩
  · exact Or.inl ⟨hc.mp h1, h2⟩
  · exact Or.inr ⟨fun z => h1 (hc.mpr z), h2⟩
theorem pw_lcne {x y1 : Int64} {off : Int} {tgt : Nat} (q1 : x_at xMM j pc .lcmp 1 y nL ret) (q : x_at xMM j (pc + 1) (.ifCond .ne off) 3 y nL ret) (ht : ((pc + 1 : Nat) : Int) + off = (tgt : Int)) (kt : x.toInt = y1.toInt → pw inj sk base N d X j (pc + 1 + 3) L st s A) (kf : ¬ x.toInt = y1.toInt → pw inj sk base N d X j tgt L st s B) : pw inj sk base N d X j pc L (.long y1 :: .long x :: st) s (P_if (x.toInt = y1.toInt) A B) := by
  have h3 := lg_cmp3 x y1
  have hc : (lg_cmp x y1).toInt = 0 ↔ x.toInt = y1.toInt := by split at h3 <;> (try split at h3) <;> omega
  refine pw_lcmp q1 (pw_cons (pw_ifne (A := A) (B := B) q ht (fun h => kt (hc.mp h)) (fun h => kf (fun z => h (hc.mpr z)))) (fun v s hv => ?_))
  rcases hv with ⟨h1, h2⟩ | ⟨h1, h2⟩
  · exact Or.inl ⟨hc.mp h1, h2⟩
  · exact Or.inr ⟨fun z => h1 (hc.mpr z), h2⟩
theorem pw_lclt {x y1 : Int64} {off : Int} {tgt : Nat} (q1 : x_at xMM j pc .lcmp 1 y nL ret) (q : x_at xMM j (pc + 1) (.ifCond .lt off) 3 y nL ret) (ht : ((pc + 1 : Nat) : Int) + off = (tgt : Int)) (kt : x.toInt < y1.toInt → pw inj sk base N d X j tgt L st s A) (kf : ¬ x.toInt < y1.toInt → pw inj sk base N d X j (pc + 1 + 3) L st s B) : pw inj sk base N d X j pc L (.long y1 :: .long x :: st) s (P_if (x.toInt < y1.toInt) A B) := by
  have h3 := lg_cmp3 x y1
  have hc : (lg_cmp x y1).toInt < 0 ↔ x.toInt < y1.toInt := by split at h3 <;> (try split at h3) <;> omega
  refine pw_lcmp q1 (pw_cons (pw_iflt (A := A) (B := B) q ht (fun h => kt (hc.mp h)) (fun h => kf (fun z => h (hc.mpr z)))) (fun v s hv => ?_))
  rcases hv with ⟨h1, h2⟩ | ⟨h1, h2⟩
  · exact Or.inl ⟨hc.mp h1, h2⟩
  · exact Or.inr ⟨fun z => h1 (hc.mpr z), h2⟩
theorem pw_lcge {x y1 : Int64} {off : Int} {tgt : Nat} (q1 : x_at xMM j pc .lcmp 1 y nL ret) (q : x_at xMM j (pc + 1) (.ifCond .ge off) 3 y nL ret) (ht : ((pc + 1 : Nat) : Int) + off = (tgt : Int)) (kt : x.toInt < y1.toInt → pw inj sk base N d X j (pc + 1 + 3) L st s A) (kf : ¬ x.toInt < y1.toInt → pw inj sk base N d X j tgt L st s B) : pw inj sk base N d X j pc L (.long y1 :: .long x :: st) s (P_if (x.toInt < y1.toInt) A B) := by
  have h3 := lg_cmp3 x y1
  have hc : (lg_cmp x y1).toInt < 0 ↔ x.toInt < y1.toInt := by split at h3 <;> (try split at h3) <;> omega
  refine pw_lcmp q1 (pw_cons (pw_ifge (A := A) (B := B) q ht (fun h => kt (hc.mp h)) (fun h => kf (fun z => h (hc.mpr z)))) (fun v s hv => ?_))
  rcases hv with ⟨h1, h2⟩ | ⟨h1, h2⟩
  · exact Or.inl ⟨hc.mp h1, h2⟩
  · exact Or.inr ⟨fun z => h1 (hc.mpr z), h2⟩
theorem pw_lcgt {x y1 : Int64} {off : Int} {tgt : Nat} (q1 : x_at xMM j pc .lcmp 1 y nL ret) (q : x_at xMM j (pc + 1) (.ifCond .gt off) 3 y nL ret) (ht : ((pc + 1 : Nat) : Int) + off = (tgt : Int)) (kt : y1.toInt < x.toInt → pw inj sk base N d X j tgt L st s A) (kf : ¬ y1.toInt < x.toInt → pw inj sk base N d X j (pc + 1 + 3) L st s B) : pw inj sk base N d X j pc L (.long y1 :: .long x :: st) s (P_if (y1.toInt < x.toInt) A B) := by
  have h3 := lg_cmp3 x y1
  have hc : 0 < (lg_cmp x y1).toInt ↔ y1.toInt < x.toInt := by split at h3 <;> (try split at h3) <;> omega
  refine pw_lcmp q1 (pw_cons (pw_ifgt (A := A) (B := B) q ht (fun h => kt (hc.mp h)) (fun h => kf (fun z => h (hc.mpr z)))) (fun v s hv => ?_))
  rcases hv with ⟨h1, h2⟩ | ⟨h1, h2⟩
  · exact Or.inl ⟨hc.mp h1, h2⟩
  · exact Or.inr ⟨fun z => h1 (hc.mpr z), h2⟩
theorem pw_lcle {x y1 : Int64} {off : Int} {tgt : Nat} (q1 : x_at xMM j pc .lcmp 1 y nL ret) (q : x_at xMM j (pc + 1) (.ifCond .le off) 3 y nL ret) (ht : ((pc + 1 : Nat) : Int) + off = (tgt : Int)) (kt : y1.toInt < x.toInt → pw inj sk base N d X j (pc + 1 + 3) L st s A) (kf : ¬ y1.toInt < x.toInt → pw inj sk base N d X j tgt L st s B) : pw inj sk base N d X j pc L (.long y1 :: .long x :: st) s (P_if (y1.toInt < x.toInt) A B) := by
  have h3 := lg_cmp3 x y1
  have hc : 0 < (lg_cmp x y1).toInt ↔ y1.toInt < x.toInt := by split at h3 <;> (try split at h3) <;> omega
  refine pw_lcmp q1 (pw_cons (pw_ifle (A := A) (B := B) q ht (fun h => kt (hc.mp h)) (fun h => kf (fun z => h (hc.mpr z)))) (fun v s hv => ?_))
  rcases hv with ⟨h1, h2⟩ | ⟨h1, h2⟩
  · exact Or.inl ⟨hc.mp h1, h2⟩
  · exact Or.inr ⟨fun z => h1 (hc.mpr z), h2⟩
theorem pw_ifnull {v : Option Nat} {off : Int} {tgt : Nat} (q : x_at xMM j pc (.ifnull off) 3 y nL ret) (ht : (pc : Int) + off = (tgt : Int)) (kt : v = none → pw inj sk base N d X j tgt L st s A) (kf : ¬ v = none → pw inj sk base N d X j (pc + 3) L st s B) : pw inj sk base N d X j pc L (va_rf v :: st) s (P_if (v = none) A B) := pw_br q rfl (fun h b hb => by { obtain ⟨-, v2, r, t2, e, ht2, hb⟩ := hb; have h0 : v2 = v := (va_rf_inj (List.cons.inj e).1).symm; have e3 := (List.cons.inj e).2; subst e3; dsimp only at ht2; have e2 : t2 = tgt := (by omega); rcases hb with ⟨h1, rfl⟩ | ⟨h1, rfl⟩; { exact Or.inl ⟨h0.symm.trans h1, by rw [e2]; rfl⟩ }; { exact Or.inr ⟨fun z => h1 (h0.trans z), rfl⟩ } }) kt kf
theorem pw_ifnonnull {v : Option Nat} {off : Int} {tgt : Nat} (q : x_at xMM j pc (.ifnonnull off) 3 y nL ret) (ht : (pc : Int) + off = (tgt : Int)) (kt : v = none → pw inj sk base N d X j (pc + 3) L st s A) (kf : ¬ v = none → pw inj sk base N d X j tgt L st s B) : pw inj sk base N d X j pc L (va_rf v :: st) s (P_if (v = none) A B) := pw_br q rfl (fun h b hb => by { obtain ⟨-, v2, r, t2, e, ht2, hb⟩ := hb; have h0 : v2 = v := (va_rf_inj (List.cons.inj e).1).symm; have e3 := (List.cons.inj e).2; subst e3; dsimp only at ht2; have e2 : t2 = tgt := (by omega); rcases hb with ⟨h1, rfl⟩ | ⟨h1, rfl⟩; { exact Or.inr ⟨fun z => h1 (h0.trans z), by rw [e2]; rfl⟩ }; { exact Or.inl ⟨h0.symm.trans h1, rfl⟩ } }) kt kf
theorem pw_tsw {x : Int32} {dflt lo hi : Int} {offs : Array Int} (q : x_at xMM j pc (.tableswitch dflt lo hi offs) len y nL ret) (k : ∀ tgt : Nat, (((x.toInt < lo ∨ hi < x.toInt) ∧ (pc : Int) + dflt = (tgt : Int)) ∨ (¬ x.toInt < lo ∧ ¬ hi < x.toInt ∧ ∃ off, offs[(x.toInt - lo).toNat]? = some off ∧ (pc : Int) + off = (tgt : Int))) → pw inj sk base N d X j tgt L st s Ψ) : pw inj sk base N d X j pc L (.int x :: st) s Ψ :=
  pw_st q rfl (fun h b hR hb n hn r h' hg => by
    obtain ⟨x2, r2, tgt, e, rfl, ht⟩ := hb
    cases e
    exact k tgt ht n (by omega) h r h' hR hg)
theorem pw_lsw {x : Int32} {dflt : Int} {ps : Array (Int × Int)} (q : x_at xMM j pc (.lookupswitch dflt ps) len y nL ret) (k : ∀ tgt : Nat, (pc : Int) + Jvm.Op.lookupswitch.offset ps.toList dflt x.toInt = (tgt : Int) → pw inj sk base N d X j tgt L st s Ψ) : pw inj sk base N d X j pc L (.int x :: st) s Ψ :=
  pw_st q rfl (fun h b hR hb n hn r h' hg => by
    obtain ⟨x2, r2, tgt, e, rfl, -, ht⟩ := hb
    cases e
    exact k tgt ht n (by omega) h r h' hR hg)
theorem pw_throw (q : x_at xMM j pc .athrow len y nL ret) : pw inj sk base N d X j pc L st s Ψ := pw_no q rfl (fun h b hb => hb)
theorem pw_iret {x : Int32} (q : x_at xMM j pc .ireturn len y nL ret) (ho : pk s.1 s.2.2.1 s.2.2.2.2.2) : pw pj_I sk base N d X j pc L (.int x :: st) s (P_ret x s) :=
  pw_inv q (fun n hn h r h' hR hh => by
    rcases hh with ⟨b, hi | hi, hg⟩ | ⟨⟨-, x2, ty, e, rfl, -⟩, rfl⟩ | ⟨_, _, _, _, _, _, _, _, _, _, _, _, _, hc, _⟩ | ⟨_, _, _, hc, _⟩
    · exact hi.elim
    · exact hi.elim
    · cases e
      exact ⟨_, s, rfl, hR, ho, rfl, rfl⟩
    · exact hc.2.2.2.2.2.elim
    · exact hc.elim)
theorem pw_lret {x : Int64} (q : x_at xMM j pc .lreturn len y nL ret) (ho : pk s.1 s.2.2.1 s.2.2.2.2.2) : pw pj_J sk base N d X j pc L (.long x :: st) s (P_ret x s) :=
  pw_inv q (fun n hn h r h' hR hh => by
    rcases hh with ⟨b, hi | hi, hg⟩ | ⟨⟨-, x2, e, rfl, -⟩, rfl⟩ | ⟨_, _, _, _, _, _, _, _, _, _, _, _, _, hc, _⟩ | ⟨_, _, _, hc, _⟩
    · exact hi.elim
    · exact hi.elim
    · cases e
      exact ⟨_, s, rfl, hR, ho, rfl, rfl⟩
    · exact hc.2.2.2.2.2.elim
    · exact hc.elim)
theorem pw_aret {o : Option Nat} (q : x_at xMM j pc .areturn len y nL ret) (ho : pk s.1 s.2.2.1 s.2.2.2.2.2) : pw (pj_A base) sk base N d X j pc L (va_rf (h_rf base o) :: st) s (P_ret o s) :=
  pw_inv q (fun n hn h r h' hR hh => by
    rcases hh with ⟨b, hi | hi, hg⟩ | ⟨⟨-, v, ty, e, rfl, -⟩, rfl⟩ | ⟨_, _, _, _, _, _, _, _, _, _, _, _, _, hc, _⟩ | ⟨_, _, _, hc, _⟩
    · exact hi.elim
    · exact hi.elim
    · refine ⟨o, s, ?_, hR, ho, rfl, rfl⟩
      rw [← (List.cons.inj e).1]
      rfl
    · exact hc.2.2.2.2.2.elim
    · exact hc.elim)
theorem pw_vret (q : x_at xMM j pc .return_ len y nL ret) (ho : pk s.1 s.2.2.1 s.2.2.2.2.2) : pw pj_V sk base N d X j pc L st s (P_ret () s) :=
  pw_inv q (fun n hn h r h' hR hh => by
    rcases hh with ⟨b, hi | hi, hg⟩ | ⟨⟨-, e, rfl, -⟩, rfl⟩ | ⟨_, _, _, _, _, _, _, _, _, _, _, _, _, hc, _⟩ | ⟨_, _, _, hc, _⟩
    · exact hi.elim
    · exact hi.elim
    · exact ⟨(), s, rfl, hR, ho, rfl, rfl⟩
    · exact hc.2.2.2.2.2.elim
    · exact hc.elim)
end PW
end
section
/-! The same over cells: fields, arrays, new cells; which field, which method an instruction names is one alone. -/
def x_uF (own : String) (idx t k : Nat) : Prop := ∀ (ci k2 : Nat) (C : String) (T : u_T) (N : Nat), x_fl vwCl x_Ts x_AO own idx ci k2 C T N → ci = t ∧ k2 = k
def x_nS (own : String) (idx : Nat) : Prop := ∀ n d, Cond.fieldLink own idx "java/lang/String" n d ∈ x_Ts → False
def x_uM (own : String) (idx : Nat) (y : MethodName) : Prop := ∀ y2 : MethodName, x_lk x_Ts x_AO own idx y2 → y2 = y
def u_fl (own : String) (idx : Nat) (c0 n0 : String) : Bool := lw_tbl.all (fun w => match w with
  | .fieldLink o i c n _ => !(i == idx && o == own) || (c == c0 && n == n0)
  | .fieldLinkNest o i c n _ _ => !(i == idx && o == own) || (c == c0 && n == n0)
  | _ => true)
def u_ml (own : String) (idx : Nat) (y : MethodName) : Bool := lw_tbl.all (fun w => match w with
  | .methodLink o i z => !(i == idx && o == own) || decide (z = y)
  | .methodLinkNest o i z _ => !(i == idx && o == own) || decide (z = y)
  | _ => true)
def u_tb (c0 n0 : String) (t k : Nat) : Bool := (List.range 13).all (fun ci => match vwCl[ci]? with
  | none => true
  | some (_, T, N) => (List.range N).all (fun k2 => !((T k2).1 == c0 && (T k2).2.1 == n0) || (ci == t && k2 == k)))
theorem x_uF_of {own : String} {idx t k : Nat} {c0 n0 : String} (h1 : u_fl own idx c0 n0 = true) (h2 : u_tb c0 n0 t k = true) : x_uF own idx t k := by
  intro ci k2 C T N h
  obtain ⟨hci, hk, hl⟩ := h
  have hcn : (T k2).1 = c0 ∧ (T k2).2.1 = n0 := by
    rcases hl with hl | ⟨host, hl⟩
    · have h3 := List.all_eq_true.mp h1 _ (List.mem_filter.mp hl).1
      simpa using h3
    · have h3 := List.all_eq_true.mp h1 _ (List.mem_filter.mp hl).1
      simpa using h3
  have hlt : ci < 13 := (List.getElem?_eq_some_iff.mp hci).1
  have h3 := List.all_eq_true.mp h2 ci (List.mem_range.mpr hlt)
  rw [hci] at h3
  have h4 := List.all_eq_true.mp h3 k2 (List.mem_range.mpr hk)
  simpa [hcn.1, hcn.2] using h4
theorem x_nS_of {own : String} {idx : Nat} {c0 n0 : String} (h1 : u_fl own idx c0 n0 = true) (h2 : c0 ≠ "java/lang/String") : x_nS own idx := by
  intro n d hl
  have h3 := List.all_eq_true.mp h1 _ (List.mem_filter.mp hl).1
  have h4 : "java/lang/String" = c0 ∧ n = n0 := by simpa using h3
  exact h2 h4.1.symm
theorem x_uM_of {own : String} {idx : Nat} {y : MethodName} (h1 : u_ml own idx y = true) : x_uM own idx y := by
  intro y2 hl
  rcases hl with hl | ⟨host, hl⟩
  · have h3 := List.all_eq_true.mp h1 _ (List.mem_filter.mp hl).1
    simpa using h3
  · have h3 := List.all_eq_true.mp h1 _ (List.mem_filter.mp hl).1
    simpa using h3
section HA
variable {base n sl : Nat} {SH : Nat → Nat × Nat} {FI : Nat → Nat → Int32} {FL : Nat → Nat → Int64} {FR : Nat → Nat → Option Nat} {h : List xC}
theorem h_at {q : Nat} {c : xC} (hR : h_Rel base (n, sl, SH, FI, FL, FR) h) (e : h[q]? = some c) : q < n ∧ h_cell base (SH q) (FI q) (FL q) (FR q) = c := by
  have h1 : q < h.length := (List.getElem?_eq_some_iff.mp e).1
  have h0 : h.length = n := hR.1
  have h2 := hR.2.2 q (by dsimp only; omega)
  rw [e] at h2
  exact ⟨by omega, (Option.some.inj h2).symm⟩
theorem h_cell_o {sh : Nat × Nat} {f : Nat → Int32} {g : Nat → Int64} {r : Nat → Option Nat} {ci : Nat} {fs : List Value} (e : h_cell base sh f g r = .inr (ci, fs)) : sh.1 = ci ∧ sh.1 < 100 ∧ fs = h_fs base ci f g r := by
  unfold h_cell at e
  split at e
  · rename_i h1
    cases e
    exact ⟨rfl, h1, rfl⟩
  · cases e
theorem h_cell_a {sh : Nat × Nat} {f : Nat → Int32} {g : Nat → Int64} {r : Nat → Option Nat} {k m : Nat} {z : (Nat → Int32) ⊕ (Nat → Int64) ⊕ (Nat → UInt32) ⊕ (Nat → UInt64) ⊕ (Nat → Option Nat)} (e : h_cell base sh f g r = .inl (k, m, z)) : sh = (100 + k, m) ∧ z = h_av base k f g r := by
  unfold h_cell at e
  split at e
  · cases e
  · rename_i h1
    cases e
    refine ⟨Prod.ext ?_ rfl, rfl⟩
    dsimp only
    omega
theorem h_put {c t k : Nat} {v : Value} {f' : Nat → Int32} {g' : Nat → Int64} {r' : Nat → Option Nat} (hR : h_Rel base (n, sl, SH, FI, FL, FR) h) (hc : c < n) (hs : (SH c).1 = t) (ht : t < 100) (hk : k < h_nf t) (hv : h_fv base (h_ty t k) (f' k) (g' k) (r' k) = v) (ho : ∀ i, i ≠ k → f' i = FI c i ∧ g' i = FL c i ∧ r' i = FR c i) :
    h_Rel base (n, sl, SH, va_up FI c f', va_up FL c g', va_up FR c r') (h.set c (.inr (t, (h_fs base t (FI c) (FL c) (FR c)).set k v))) := by
  refine h_set hR hc ?_ ?_ (fun i hi => ⟨if_neg hi, if_neg hi, if_neg hi⟩)
  · rw [h_obj hs ht]
    have e : (h_fs base t (FI c) (FL c) (FR c)).set k v = h_fs base t f' g' r' := h_fs_set hk hv (fun i hi => by obtain ⟨a1, a2, a3⟩ := ho i hi; rw [a1, a2, a3])
    rw [show va_up FI c f' c = f' from if_pos rfl, show va_up FL c g' c = g' from if_pos rfl, show va_up FR c r' c = r' from if_pos rfl, e]
  · rw [h_obj hs ht]
    simp [x_n]
end HA
theorem x_kn_0 {k : Nat} {ty : FieldType} (h : x_kn[k]? = some ty) : (ty = .int → k = 0) ∧ (ty = .long → k = 1) ∧ (ty = .boolean → k = 2) ∧ (ty.isReference = true → 3 ≤ k ∧ k < 7) := by
  match k, h with
  | 0, h => cases h; exact ⟨fun _ => rfl, fun e => (by cases e), fun e => (by cases e), fun e => (by cases e)⟩
  | 1, h => cases h; exact ⟨fun e => (by cases e), fun _ => rfl, fun e => (by cases e), fun e => (by cases e)⟩
  | 2, h => cases h; exact ⟨fun e => (by cases e), fun e => (by cases e), fun _ => rfl, fun e => (by cases e)⟩
  | 3, h => cases h; exact ⟨fun e => (by cases e), fun e => (by cases e), fun e => (by cases e), fun _ => by decide⟩
  | 4, h => cases h; exact ⟨fun e => (by cases e), fun e => (by cases e), fun e => (by cases e), fun _ => by decide⟩
  | 5, h => cases h; exact ⟨fun e => (by cases e), fun e => (by cases e), fun e => (by cases e), fun _ => by decide⟩
  | 6, h => cases h; exact ⟨fun e => (by cases e), fun e => (by cases e), fun e => (by cases e), fun _ => by decide⟩
  | k + 7, h => simp [x_kn] at h
section PH
variable {ρ : Type} {inj : ρ → Option Value} {sk : xK} {base N d : Nat} {j : Nat} {y : MethodName} {nL : Nat} {ret : Option FieldType} {len pc : Nat} {L : xL} {st : List Value} {n sl : Nat} {SH : Nat → Nat × Nat} {FI : Nat → Nat → Int32} {FL : Nat → Nat → Int64} {FR : Nat → Nat → Option Nat} {A : Nat → ρ → hS → Prop} {B : ρ → hS → Prop}
theorem pw_get {idx t k : Nat} {o : Option Nat} {v : Nat → Value} (q : x_at xMM j pc (.getfield idx) 3 y nL ret) (hu : x_uF y.cls idx t k) (hn : x_nS y.cls idx) (hv : ∀ c, h_fv base (h_ty t k) (FI c k) (FL c k) (FR c k) = v c) (kk : ∀ c, o = some c → c < n → (SH c).1 = t → pw inj sk base N d none j (pc + 3) L (v c :: st) (n, sl, SH, FI, FL, FR) (A c)) : pw inj sk base N d none j pc L (va_rf (h_rf base o) :: st) (n, sl, SH, FI, FL, FR) (P_sm o A) :=
  pw_inv q (fun m hm h r h' hR hh => by
    rcases hh with ⟨b, hi | hi, hg⟩ | ⟨hr, -⟩ | ⟨_, _, _, _, _, _, _, _, _, _, _, _, _, hc, _⟩ | ⟨_, _, _, hc, _⟩
    · obtain ⟨-, ci, k2, C, T, N2, q2, fs, v2, r2, hf, e, hq, hk, rfl⟩ := hi
      obtain ⟨e1, e2⟩ := hu _ _ _ _ _ hf
      subst e1; subst e2
      have ho := h_rf_some (List.cons.inj e).1
      have e3 := (List.cons.inj e).2
      subst e3
      obtain ⟨hlt, hc⟩ := h_at hR hq
      obtain ⟨h1, h2, h3⟩ := h_cell_o hc
      have hv2 : v2 = v q2 := by
        rw [h3, h_fs_at (by rw [h_nf_of hf.1]; exact hf.2.1), hv] at hk
        exact (Option.some.inj hk).symm
      subst hv2
      obtain ⟨x, s', e4, g1, hp0, g2⟩ := kk q2 ho hlt h1 m (by omega) h r h' hR hg
      exact ⟨x, s', e4, g1, hp0, q2, ho, g2⟩
    · obtain ⟨-, k2, r2, -, -, hh⟩ := hi
      rcases hh with ⟨hw, -⟩ | ⟨hw, -⟩
      · exact (hn _ _ hw).elim
      · exact (hn _ _ hw).elim
    · exact hr.elim
    · exact hc.2.2.2.2.2.elim
    · exact hc.elim)
theorem pw_getr {idx t k c : Nat} {v : Value} (q : x_at xMM j pc (.getfield idx) 3 y nL ret) (hu : x_uF y.cls idx t k) (hn : x_nS y.cls idx) (hv : h_fv base (h_ty t k) (FI c k) (FL c k) (FR c k) = v) (kk : pw inj sk base N d none j (pc + 3) L (v :: st) (n, sl, SH, FI, FL, FR) B) : pw inj sk base N d none j pc L (.ref (base + c) :: st) (n, sl, SH, FI, FL, FR) B :=
  pw_cons (pw_get (o := some c) (v := fun c => h_fv base (h_ty t k) (FI c k) (FL c k) (FR c k)) (A := fun _ => B) q hu hn (fun _ => rfl) (fun c2 e _ _ => by cases e; rw [hv]; exact kk)) (fun x s h => by obtain ⟨q, -, h⟩ := h; exact h)
theorem pw_put {idx t k : Nat} {o : Option Nat} {v : Value} {FI' : Nat → Nat → Nat → Int32} {FL' : Nat → Nat → Nat → Int64} {FR' : Nat → Nat → Nat → Option Nat} (q : x_at xMM j pc (.putfield idx) 3 y nL ret) (hu : x_uF y.cls idx t k) (hv : ∀ c, h_fv base (h_ty t k) (FI' c c k) (FL' c c k) (FR' c c k) = v) (ho : ∀ c i, i ≠ k → FI' c c i = FI c i ∧ FL' c c i = FL c i ∧ FR' c c i = FR c i) (ho2 : ∀ c c2, c2 ≠ c → FI' c c2 = FI c2 ∧ FL' c c2 = FL c2 ∧ FR' c c2 = FR c2) (kk : ∀ c, o = some c → c < n → (SH c).1 = t → pw inj sk base N d none j (pc + 3) L st (n, sl, SH, FI' c, FL' c, FR' c) (A c)) : pw inj sk base N d none j pc L (v :: va_rf (h_rf base o) :: st) (n, sl, SH, FI, FL, FR) (P_sm o A) :=
  pw_st q rfl (fun h b hR hb m hm r h' hg => by
    obtain ⟨-, ci, k2, C, T, N2, q2, fs, v2, r2, ty, hf, e, hq, hk, -, -, -, -, rfl⟩ := hb
    obtain ⟨e1, e2⟩ := hu _ _ _ _ _ hf
    subst e1; subst e2
    have e5 := (List.cons.inj e).1
    subst e5
    have e6 := (List.cons.inj e).2
    have ho3 := h_rf_some (List.cons.inj e6).1
    have e3 := (List.cons.inj e6).2
    subst e3
    obtain ⟨hlt, hc⟩ := h_at hR hq
    obtain ⟨h1, h2, h3⟩ := h_cell_o hc
    subst h3
    have hR2 := h_put (f' := FI' q2 q2) (g' := FL' q2 q2) (r' := FR' q2 q2) hR hlt h1 (by omega) (by rw [h_nf_of hf.1]; exact hf.2.1) (hv q2) (fun i hi => ho q2 i hi)
    have e7 : va_up FI q2 (FI' q2 q2) = FI' q2 := by
      funext c2
      by_cases h9 : c2 = q2
      · subst h9; simp [va_up]
      · simp [va_up, h9, (ho2 q2 c2 h9).1]
    have e8 : va_up FL q2 (FL' q2 q2) = FL' q2 := by
      funext c2
      by_cases h9 : c2 = q2
      · subst h9; simp [va_up]
      · simp [va_up, h9, (ho2 q2 c2 h9).2.1]
    have e9 : va_up FR q2 (FR' q2 q2) = FR' q2 := by
      funext c2
      by_cases h9 : c2 = q2
      · subst h9; simp [va_up]
      · simp [va_up, h9, (ho2 q2 c2 h9).2.2]
    rw [e7, e8, e9] at hR2
    obtain ⟨x, s', e4, g1, hp0, g2⟩ := kk q2 ho3 hlt h1 m (by omega) _ r h' hR2 hg
    exact ⟨x, s', e4, g1, hp0, q2, ho3, g2⟩)
theorem h_up_o {α : Type} {F : Nat → Nat → α} {c k i : Nat} {x : α} (h : i ≠ k) : h_up F c k x c i = F c i := h_up_ne h
theorem pw_puti {idx t k : Nat} {o : Option Nat} {x : Int32} (q : x_at xMM j pc (.putfield idx) 3 y nL ret) (hu : x_uF y.cls idx t k) (hty : ∀ (x : Int32) (y : Int64) (r : Option Nat), h_fv base (h_ty t k) x y r = .int x) (kk : ∀ c, o = some c → c < n → (SH c).1 = t → pw inj sk base N d none j (pc + 3) L st (n, sl, SH, h_up FI c k x, FL, FR) (A c)) : pw inj sk base N d none j pc L (.int x :: va_rf (h_rf base o) :: st) (n, sl, SH, FI, FL, FR) (P_sm o A) :=
  pw_put (FI' := fun c => h_up FI c k x) (FL' := fun _ => FL) (FR' := fun _ => FR) q hu (fun c => by rw [hty, h_up_eq]) (fun c i hi => ⟨h_up_ne hi, rfl, rfl⟩) (fun c c2 h => ⟨h_up_nc h, rfl, rfl⟩) kk
theorem pw_putl {idx t k : Nat} {o : Option Nat} {x : Int64} (q : x_at xMM j pc (.putfield idx) 3 y nL ret) (hu : x_uF y.cls idx t k) (hty : ∀ (x : Int32) (y : Int64) (r : Option Nat), h_fv base (h_ty t k) x y r = .long y) (kk : ∀ c, o = some c → c < n → (SH c).1 = t → pw inj sk base N d none j (pc + 3) L st (n, sl, SH, FI, h_up FL c k x, FR) (A c)) : pw inj sk base N d none j pc L (.long x :: va_rf (h_rf base o) :: st) (n, sl, SH, FI, FL, FR) (P_sm o A) :=
  pw_put (FI' := fun _ => FI) (FL' := fun c => h_up FL c k x) (FR' := fun _ => FR) q hu (fun c => by rw [hty, h_up_eq]) (fun c i hi => ⟨rfl, h_up_ne hi, rfl⟩) (fun c c2 h => ⟨rfl, h_up_nc h, rfl⟩) kk
theorem pw_putr {idx t k : Nat} {o p : Option Nat} (q : x_at xMM j pc (.putfield idx) 3 y nL ret) (hu : x_uF y.cls idx t k) (hty : ∀ (x : Int32) (y : Int64) (r : Option Nat), h_fv base (h_ty t k) x y r = va_rf (h_rf base r)) (kk : ∀ c, o = some c → c < n → (SH c).1 = t → pw inj sk base N d none j (pc + 3) L st (n, sl, SH, FI, FL, h_up FR c k p) (A c)) : pw inj sk base N d none j pc L (va_rf (h_rf base p) :: va_rf (h_rf base o) :: st) (n, sl, SH, FI, FL, FR) (P_sm o A) :=
  pw_put (FI' := fun _ => FI) (FL' := fun _ => FL) (FR' := fun c => h_up FR c k p) q hu (fun c => by rw [hty, h_up_eq]) (fun c i hi => ⟨rfl, rfl, h_up_ne hi⟩) (fun c c2 h => ⟨rfl, rfl, h_up_nc h⟩) kk
theorem P_sm_lit {c : Nat} {x : ρ} {s : hS} (h : P_sm (some c) (fun _ => B) x s) : B x s := by obtain ⟨q, -, h⟩ := h; exact h
theorem pw_putri {idx t k c : Nat} {x : Int32} (q : x_at xMM j pc (.putfield idx) 3 y nL ret) (hu : x_uF y.cls idx t k) (hty : ∀ (x : Int32) (y : Int64) (r : Option Nat), h_fv base (h_ty t k) x y r = .int x) (kk : (SH c).1 = t → pw inj sk base N d none j (pc + 3) L st (n, sl, SH, h_up FI c k x, FL, FR) B) : pw inj sk base N d none j pc L (.int x :: .ref (base + c) :: st) (n, sl, SH, FI, FL, FR) B :=
  pw_cons (pw_puti (o := some c) (A := fun _ => B) q hu hty (fun c2 e _ ht => by cases e; exact kk ht)) (fun x s h => P_sm_lit h)
theorem pw_putrl {idx t k c : Nat} {x : Int64} (q : x_at xMM j pc (.putfield idx) 3 y nL ret) (hu : x_uF y.cls idx t k) (hty : ∀ (x : Int32) (y : Int64) (r : Option Nat), h_fv base (h_ty t k) x y r = .long y) (kk : (SH c).1 = t → pw inj sk base N d none j (pc + 3) L st (n, sl, SH, FI, h_up FL c k x, FR) B) : pw inj sk base N d none j pc L (.long x :: .ref (base + c) :: st) (n, sl, SH, FI, FL, FR) B :=
  pw_cons (pw_putl (o := some c) (A := fun _ => B) q hu hty (fun c2 e _ ht => by cases e; exact kk ht)) (fun x s h => P_sm_lit h)
theorem pw_putrr {idx t k c : Nat} {p : Option Nat} (q : x_at xMM j pc (.putfield idx) 3 y nL ret) (hu : x_uF y.cls idx t k) (hty : ∀ (x : Int32) (y : Int64) (r : Option Nat), h_fv base (h_ty t k) x y r = va_rf (h_rf base r)) (kk : (SH c).1 = t → pw inj sk base N d none j (pc + 3) L st (n, sl, SH, FI, FL, h_up FR c k p) B) : pw inj sk base N d none j pc L (va_rf (h_rf base p) :: .ref (base + c) :: st) (n, sl, SH, FI, FL, FR) B :=
  pw_cons (pw_putr (o := some c) (A := fun _ => B) q hu hty (fun c2 e _ ht => by cases e; exact kk ht)) (fun x s h => P_sm_lit h)
def p_in (i : Int32) (z : Nat) : Prop := 0 ≤ i.toInt ∧ i.toInt < (z : Int)
theorem p_in_of {i : Int32} {z : Nat} (h : vp_in i z) : p_in i z := by
  have := vp_in_iff.mp h
  exact ⟨by omega, by omega⟩
theorem pw_iald {i : Int32} {o : Option Nat} {ix : Nat} (q : x_at xMM j pc .iaload 1 y nL ret) (hik : i.toInt.toNat = ix) (kk : ∀ c, o = some c → c < n → p_in i (SH c).2 → pw inj sk base N d none j (pc + 1) L (.int (FI c ix) :: st) (n, sl, SH, FI, FL, FR) (A c)) : pw inj sk base N d none j pc L (.int i :: va_rf (h_rf base o) :: st) (n, sl, SH, FI, FL, FR) (P_sm o (fun c => P_and (p_in i (SH c).2) (A c))) :=
  pw_st q rfl (fun h b hR hb m hm r h' hg => by
    subst hik
    obtain ⟨-, x2, r2, hb⟩ := hb
    rcases hb with ⟨q2, k, n2, f, hk, hin, e, hq, rfl⟩ | ⟨q2, n2, f, hX, -⟩
    · have e1 : x2 = i := by cases (List.cons.inj e).1; rfl
      have e6 := (List.cons.inj e).2
      have ho := h_rf_some (List.cons.inj e6).1
      have e3 := (List.cons.inj e6).2
      subst e1; subst e3
      have hk0 := (x_kn_0 hk).1 rfl
      subst hk0
      obtain ⟨hlt, hc⟩ := h_at hR hq
      obtain ⟨h1, h2⟩ := h_cell_a hc
      have hf : f = FI q2 := by cases h2; rfl
      subst hf
      have hz : (SH q2).2 = n2 := by rw [h1]
      have hin2 : p_in x2 (SH q2).2 := by rw [hz]; exact p_in_of hin
      obtain ⟨x, s', e4, g1, hp0, g2⟩ := kk q2 ho hlt hin2 m (by omega) h r h' hR hg
      exact ⟨x, s', e4, g1, hp0, q2, ho, hin2, g2⟩
    · cases hX)
theorem pw_lald {i : Int32} {o : Option Nat} {ix : Nat} (q : x_at xMM j pc .laload 1 y nL ret) (hik : i.toInt.toNat = ix) (kk : ∀ c, o = some c → c < n → p_in i (SH c).2 → pw inj sk base N d none j (pc + 1) L (.long (FL c ix) :: st) (n, sl, SH, FI, FL, FR) (A c)) : pw inj sk base N d none j pc L (.int i :: va_rf (h_rf base o) :: st) (n, sl, SH, FI, FL, FR) (P_sm o (fun c => P_and (p_in i (SH c).2) (A c))) :=
  pw_st q rfl (fun h b hR hb m hm r h' hg => by
    subst hik
    obtain ⟨-, x2, r2, q2, k, n2, f, hk, hin, e, hq, rfl⟩ := hb
    have e1 : x2 = i := by cases (List.cons.inj e).1; rfl
    have e6 := (List.cons.inj e).2
    have ho := h_rf_some (List.cons.inj e6).1
    have e3 := (List.cons.inj e6).2
    subst e1; subst e3
    have hk0 := (x_kn_0 hk).2.1 rfl
    subst hk0
    obtain ⟨hlt, hc⟩ := h_at hR hq
    obtain ⟨h1, h2⟩ := h_cell_a hc
    have hf : f = FL q2 := by cases h2; rfl
    subst hf
    have hz : (SH q2).2 = n2 := by rw [h1]
    have hin2 : p_in x2 (SH q2).2 := by rw [hz]; exact p_in_of hin
    obtain ⟨x, s', e4, g1, hp0, g2⟩ := kk q2 ho hlt hin2 m (by omega) h r h' hR hg
    exact ⟨x, s', e4, g1, hp0, q2, ho, hin2, g2⟩)
end PH
end
section
/-! Arrays written, lengths, new cells, calls. -/
section PA
variable {ρ : Type} {inj : ρ → Option Value} {sk : xK} {base N d : Nat} {j : Nat} {y : MethodName} {nL : Nat} {ret : Option FieldType} {len pc : Nat} {L : xL} {st : List Value} {n sl : Nat} {SH : Nat → Nat × Nat} {FI : Nat → Nat → Int32} {FL : Nat → Nat → Int64} {FR : Nat → Nat → Option Nat} {A : Nat → ρ → hS → Prop} {B : ρ → hS → Prop}
theorem pw_zald {i : Int32} {o : Option Nat} {ix : Nat} (hkb : x_kb sk base) (q : x_at xMM j pc .baload 1 y nL ret) (hik : i.toInt.toNat = ix) (kk : ∀ c, o = some c → c < n → p_in i (SH c).2 → pw inj sk base N d none j (pc + 1) L (.int (FI c ix) :: st) (n, sl, SH, FI, FL, FR) (A c)) : pw inj sk base N d none j pc L (.int i :: va_rf (h_rf base o) :: st) (n, sl, SH, FI, FL, FR) (P_sm o (fun c => P_and (p_in i (SH c).2) (A c))) :=
  pw_inv q (fun m hm h r h' hR hh => by
    subst hik
    rcases hh with ⟨b, hi | hi, hg⟩ | ⟨hr, -⟩ | ⟨_, _, _, _, _, _, _, _, _, _, _, _, _, hc, _⟩ | ⟨_, _, _, hc, _⟩
    · obtain ⟨-, x2, r2, q2, k, n2, f, hk, hin, e, hq, rfl⟩ := hi
      have e1 : x2 = i := by cases (List.cons.inj e).1; rfl
      have e6 := (List.cons.inj e).2
      have ho := h_rf_some (List.cons.inj e6).1
      have e3 := (List.cons.inj e6).2
      subst e1; subst e3
      have hk0 := (x_kn_0 hk).2.2.1 rfl
      subst hk0
      obtain ⟨hlt, hc⟩ := h_at hR hq
      obtain ⟨h1, h2⟩ := h_cell_a hc
      have hf : f = FI q2 := by cases h2; rfl
      subst hf
      have hz : (SH q2).2 = n2 := by rw [h1]
      have hin2 : p_in x2 (SH q2).2 := by rw [hz]; exact p_in_of hin
      obtain ⟨x, s', e4, g1, hp0, g2⟩ := kk q2 ho hlt hin2 m (by omega) h r h' hR hg
      exact ⟨x, s', e4, g1, hp0, q2, ho, hin2, g2⟩
    · exfalso
      obtain ⟨-, k, x2, r2, hk, -, e, -⟩ := hi
      have e6 := (List.cons.inj e).2
      have e7 := (List.cons.inj e6).1
      have hlt := (hkb.1 k hk).2
      cases o with
      | none => cases e7
      | some c =>
        have e8 : base + c = sk.2.1 k := Value.ref.inj e7
        omega
    · exact hr.elim
    · exact hc.2.2.2.2.2.elim
    · exact hc.elim)
theorem pw_aald {i : Int32} {o : Option Nat} {ix : Nat} (q : x_at xMM j pc .aaload 1 y nL ret) (hik : i.toInt.toNat = ix) (kk : ∀ c, o = some c → c < n → p_in i (SH c).2 → pw inj sk base N d none j (pc + 1) L (va_rf (h_rf base (FR c ix)) :: st) (n, sl, SH, FI, FL, FR) (A c)) : pw inj sk base N d none j pc L (.int i :: va_rf (h_rf base o) :: st) (n, sl, SH, FI, FL, FR) (P_sm o (fun c => P_and (p_in i (SH c).2) (A c))) :=
  pw_st q rfl (fun h b hR hb m hm r h' hg => by
    subst hik
    obtain ⟨-, x2, r2, q2, k, n2, f, ty, hk, hty, hin, e, hq, rfl⟩ := hb
    have e1 : x2 = i := by cases (List.cons.inj e).1; rfl
    have e6 := (List.cons.inj e).2
    have ho := h_rf_some (List.cons.inj e6).1
    have e3 := (List.cons.inj e6).2
    subst e1; subst e3
    have hk0 := (x_kn_0 hk).2.2.2 hty
    obtain ⟨hlt, hc⟩ := h_at hR hq
    obtain ⟨h1, h2⟩ := h_cell_a hc
    have hf : f = fun i => h_rf base (FR q2 i) := by
      obtain ⟨k, rfl⟩ : ∃ k', k = k' + 3 := ⟨k - 3, by omega⟩
      cases h2; rfl
    subst hf
    have hz : (SH q2).2 = n2 := by rw [h1]
    have hin2 : p_in x2 (SH q2).2 := by rw [hz]; exact p_in_of hin
    obtain ⟨x, s', e4, g1, hp0, g2⟩ := kk q2 ho hlt hin2 m (by omega) h r h' hR hg
    exact ⟨x, s', e4, g1, hp0, q2, ho, hin2, g2⟩)
theorem pw_iast {i v : Int32} {o : Option Nat} {ix : Nat} (q : x_at xMM j pc .iastore 1 y nL ret) (hik : i.toInt.toNat = ix) (kk : ∀ c, o = some c → c < n → p_in i (SH c).2 → pw inj sk base N d none j (pc + 1) L st (n, sl, SH, h_up FI c ix v, FL, FR) (A c)) : pw inj sk base N d none j pc L (.int v :: .int i :: va_rf (h_rf base o) :: st) (n, sl, SH, FI, FL, FR) (P_sm o (fun c => P_and (p_in i (SH c).2) (A c))) :=
  pw_st q rfl (fun h b hR hb m hm r h' hg => by
    subst hik
    obtain ⟨-, x2, v2, r2, q2, k, n2, f, hk, hin, e, hq, rfl⟩ := hb
    have e1 : v2 = v := by cases (List.cons.inj e).1; rfl
    have e5 := (List.cons.inj e).2
    have e2 : x2 = i := by cases (List.cons.inj e5).1; rfl
    have e6 := (List.cons.inj e5).2
    have ho := h_rf_some (List.cons.inj e6).1
    have e3 := (List.cons.inj e6).2
    subst e1; subst e2; subst e3
    have hk0 := (x_kn_0 hk).1 rfl
    subst hk0
    obtain ⟨hlt, hc⟩ := h_at hR hq
    obtain ⟨h1, h2⟩ := h_cell_a hc
    have hf : f = FI q2 := by cases h2; rfl
    subst hf
    have hz : (SH q2).2 = n2 := by rw [h1]
    have hin2 : p_in x2 (SH q2).2 := by rw [hz]; exact p_in_of hin
    have e9 := h_arr_set (k := 0) (f' := va_up (FI q2) x2.toNatClampNeg v2) (g' := FL q2) (r' := FR q2) hR hlt h1
    rw [h_same FL, h_same FR] at e9
    rw [h_upd] at hg
    obtain ⟨x, s', e4, g1, hp0, g2⟩ := kk q2 ho hlt hin2 m (by omega) _ r h' e9 hg
    exact ⟨x, s', e4, g1, hp0, q2, ho, hin2, g2⟩)
theorem pw_last {i : Int32} {v : Int64} {o : Option Nat} {ix : Nat} (q : x_at xMM j pc .lastore 1 y nL ret) (hik : i.toInt.toNat = ix) (kk : ∀ c, o = some c → c < n → p_in i (SH c).2 → pw inj sk base N d none j (pc + 1) L st (n, sl, SH, FI, h_up FL c ix v, FR) (A c)) : pw inj sk base N d none j pc L (.long v :: .int i :: va_rf (h_rf base o) :: st) (n, sl, SH, FI, FL, FR) (P_sm o (fun c => P_and (p_in i (SH c).2) (A c))) :=
  pw_st q rfl (fun h b hR hb m hm r h' hg => by
    subst hik
    obtain ⟨-, x2, v2, r2, q2, k, n2, f, hk, hin, e, hq, rfl⟩ := hb
    have e1 : v2 = v := by cases (List.cons.inj e).1; rfl
    have e5 := (List.cons.inj e).2
    have e2 : x2 = i := by cases (List.cons.inj e5).1; rfl
    have e6 := (List.cons.inj e5).2
    have ho := h_rf_some (List.cons.inj e6).1
    have e3 := (List.cons.inj e6).2
    subst e1; subst e2; subst e3
    have hk0 := (x_kn_0 hk).2.1 rfl
    subst hk0
    obtain ⟨hlt, hc⟩ := h_at hR hq
    obtain ⟨h1, h2⟩ := h_cell_a hc
    have hf : f = FL q2 := by cases h2; rfl
    subst hf
    have hz : (SH q2).2 = n2 := by rw [h1]
    have hin2 : p_in x2 (SH q2).2 := by rw [hz]; exact p_in_of hin
    have e9 := h_arr_set (k := 1) (f' := FI q2) (g' := va_up (FL q2) x2.toNatClampNeg v2) (r' := FR q2) hR hlt h1
    rw [h_same FI, h_same FR] at e9
    rw [h_updL] at hg
    obtain ⟨x, s', e4, g1, hp0, g2⟩ := kk q2 ho hlt hin2 m (by omega) _ r h' e9 hg
    exact ⟨x, s', e4, g1, hp0, q2, ho, hin2, g2⟩)
theorem pw_zast {i v : Int32} {o : Option Nat} {ix : Nat} (q : x_at xMM j pc .bastore 1 y nL ret) (hik : i.toInt.toNat = ix) (kk : ∀ c, o = some c → c < n → p_in i (SH c).2 → pw inj sk base N d none j (pc + 1) L st (n, sl, SH, h_up FI c ix (vp_nar .boolean v), FL, FR) (A c)) : pw inj sk base N d none j pc L (.int v :: .int i :: va_rf (h_rf base o) :: st) (n, sl, SH, FI, FL, FR) (P_sm o (fun c => P_and (p_in i (SH c).2) (A c))) :=
  pw_st q rfl (fun h b hR hb m hm r h' hg => by
    subst hik
    obtain ⟨-, x2, v2, r2, q2, k, n2, f, hk, hin, e, hq, rfl⟩ := hb
    have e1 : v2 = v := by cases (List.cons.inj e).1; rfl
    have e5 := (List.cons.inj e).2
    have e2 : x2 = i := by cases (List.cons.inj e5).1; rfl
    have e6 := (List.cons.inj e5).2
    have ho := h_rf_some (List.cons.inj e6).1
    have e3 := (List.cons.inj e6).2
    subst e1; subst e2; subst e3
    have hk0 := (x_kn_0 hk).2.2.1 rfl
    subst hk0
    obtain ⟨hlt, hc⟩ := h_at hR hq
    obtain ⟨h1, h2⟩ := h_cell_a hc
    have hf : f = FI q2 := by cases h2; rfl
    subst hf
    have hz : (SH q2).2 = n2 := by rw [h1]
    have hin2 : p_in x2 (SH q2).2 := by rw [hz]; exact p_in_of hin
    have e9 := h_arr_set (k := 2) (f' := va_up (FI q2) x2.toNatClampNeg (vp_nar .boolean v2)) (g' := FL q2) (r' := FR q2) hR hlt h1
    rw [h_same FL, h_same FR] at e9
    rw [h_upd] at hg
    obtain ⟨x, s', e4, g1, hp0, g2⟩ := kk q2 ho hlt hin2 m (by omega) _ r h' e9 hg
    exact ⟨x, s', e4, g1, hp0, q2, ho, hin2, g2⟩)
theorem pw_aast {i : Int32} {o p : Option Nat} {ix : Nat} (q : x_at xMM j pc .aastore 1 y nL ret) (hik : i.toInt.toNat = ix) (kk : ∀ c v, o = some c → p = some v → c < n → v < n → p_in i (SH c).2 → 100 ≤ (SH c).1 → pw inj sk base N d none j (pc + 1) L st (n, sl, SH, FI, FL, h_up FR c ix p) (A c)) : pw inj sk base N d none j pc L (va_rf (h_rf base p) :: .int i :: va_rf (h_rf base o) :: st) (n, sl, SH, FI, FL, FR) (P_sm o (fun c => P_and (p_in i (SH c).2 ∧ ∃ v, p = some v) (A c))) :=
  pw_st q rfl (fun h b hR hb m hm r h' hg => by
    subst hik
    obtain ⟨-, x2, v2, r2, q2, k, n2, f, hin, e, hq, rfl, hd⟩ := hb
    have hp := h_rf_some (List.cons.inj e).1
    have e5 := (List.cons.inj e).2
    have e2 : x2 = i := by cases (List.cons.inj e5).1; rfl
    have e6 := (List.cons.inj e5).2
    have ho := h_rf_some (List.cons.inj e6).1
    have e3 := (List.cons.inj e6).2
    subst e2; subst e3
    have hk0 : 3 ≤ k ∧ k < 7 := by
      rcases hd with ⟨ci, fs, C, T, N2, hk, -⟩ | ⟨k2, z, hk, -⟩
      · exact (x_kn_0 hk).2.2.2 rfl
      · exact (x_kn_0 hk).2.2.2 rfl
    have hv : v2 < n := by
      rcases hd with ⟨ci, fs, C, T, N2, -, -, hq2⟩ | ⟨k2, z, -, -, -, hq2⟩
      · exact (h_at hR hq2).1
      · exact (h_at hR hq2).1
    obtain ⟨hlt, hc⟩ := h_at hR hq
    obtain ⟨h1, h2⟩ := h_cell_a hc
    obtain ⟨k, rfl⟩ : ∃ k', k = k' + 3 := ⟨k - 3, by omega⟩
    have hf : f = fun i => h_rf base (FR q2 i) := by cases h2; rfl
    subst hf
    have hz : (SH q2).2 = n2 := by rw [h1]
    have hin2 : p_in x2 (SH q2).2 := by rw [hz]; exact p_in_of hin
    have e9 := h_arr_set (k := k + 3) (f' := FI q2) (g' := FL q2) (r' := va_up (FR q2) x2.toNatClampNeg (some v2)) hR hlt h1
    rw [h_same FI, h_same FL] at e9
    have e10 : (va_up (fun i => h_rf base (FR q2 i)) x2.toNatClampNeg (some (base + v2))) = fun i2 => h_rf base (va_up (FR q2) x2.toNatClampNeg (some v2) i2) := by
      funext i2
      by_cases h9 : i2 = x2.toNatClampNeg
      · simp [va_up, h9, h_rf]
      · simp [va_up, h9]
    rw [e10] at hg
    have k1 := kk q2 v2 ho hp hlt hv hin2 (by rw [h1]; exact Nat.le_add_right 100 _)
    rw [hp] at k1
    obtain ⟨x, s', e4, g1, hp0, g2⟩ := k1 m (by omega) _ r h' e9 hg
    exact ⟨x, s', e4, g1, hp0, q2, ho, ⟨hin2, v2, hp⟩, g2⟩)
theorem pw_alen {o : Option Nat} (hkb : x_kb sk base) (q : x_at xMM j pc .arraylength 1 y nL ret) (kk : ∀ c, o = some c → c < n → pw inj sk base N d none j (pc + 1) L (.int (Int32.ofNat (SH c).2) :: st) (n, sl, SH, FI, FL, FR) (A c)) : pw inj sk base N d none j pc L (va_rf (h_rf base o) :: st) (n, sl, SH, FI, FL, FR) (P_sm o A) :=
  pw_inv q (fun m hm h r h' hR hh => by
    rcases hh with ⟨b, hi | hi, hg⟩ | ⟨hr, -⟩ | ⟨_, _, _, _, _, _, _, _, _, _, _, _, _, hc, _⟩ | ⟨_, _, _, hc, _⟩
    · obtain ⟨-, r2, hb⟩ := hi
      rcases hb with ⟨q2, k, x2, hk, e, hq, rfl⟩ | ⟨q2, n2, f, hX, -⟩
      · have ho := h_rf_some (List.cons.inj e).1
        have e3 := (List.cons.inj e).2
        subst e3
        obtain ⟨hlt, hc⟩ := h_at hR hq
        obtain ⟨h1, h2⟩ := h_cell_a (m := x2.1) (z := x2.2) hc
        have hz : (SH q2).2 = x2.1 := by rw [h1]
        have k1 := kk q2 ho hlt
        rw [hz] at k1
        obtain ⟨x, s', e4, g1, hp0, g2⟩ := k1 m (by omega) h r h' hR hg
        exact ⟨x, s', e4, g1, hp0, q2, ho, g2⟩
      · cases hX
    · exfalso
      obtain ⟨-, k, r2, hk, e, -⟩ := hi
      have e7 := (List.cons.inj e).1
      have hlt := (hkb.1 k hk).2
      cases o with
      | none => cases e7
      | some c =>
        have e8 : base + c = sk.2.1 k := Value.ref.inj e7
        omega
    · exact hr.elim
    · exact hc.2.2.2.2.2.elim
    · exact hc.elim)
end PA
/-! Calls. -/
def x_uJ (y : MethodName) (j : Nat) : Prop := ∀ (j2 : Nat) (cc : ByteArray) (nL : Nat) (ret : Option FieldType), xMM j2 = some (y, cc, nL, ret) → j2 = j
def u_j (y : MethodName) (j : Nat) : Bool := (List.range x_ml.length).all (fun i => match x_ml[i]? with
  | some q => !(decide (q.1 = y)) || i == j
  | none => true)
theorem x_uJ_of {y : MethodName} {j : Nat} (h : u_j y j = true) : x_uJ y j := by
  intro j2 cc nL ret hM
  have hM2 : x_ml[j2]? = some (y, cc, nL, ret) := hM
  have hlt := (List.getElem?_eq_some_iff.mp hM2).1
  have h3 := List.all_eq_true.mp h j2 (List.mem_range.mpr hlt)
  rw [hM2] at h3
  simpa using h3
theorem x_pn_u {y : MethodName} {a b : Nat} (h : x_pn y a) (h2 : x_pn y b) : a = b := by
  unfold x_pn at h h2
  rw [h] at h2
  exact Option.some.inj h2
theorem x_app_u {α : Type} {a b c d : List α} (h : a ++ b = c ++ d) (hl : a.length = c.length) : a = c ∧ b = d := List.append_inj h hl
section PC
variable {ρ τ : Type} {inj : ρ → Option Value} {inj2 : τ → Option Value} {sk : xK} {base N d : Nat} {j : Nat} {y : MethodName} {nL : Nat} {ret : Option FieldType} {len pc : Nat} {L : xL} {n sl : Nat} {SH : Nat → Nat × Nat} {FI : Nat → Nat → Int32} {FL : Nat → Nat → Int64} {FR : Nat → Nat → Option Nat} {C : τ → hS → Prop} {A : τ → Nat → Nat → (Nat → Nat × Nat) → (Nat → Nat → Int32) → (Nat → Nat → Int64) → (Nat → Nat → Option Nat) → ρ → hS → Prop}
/-- what a call does, over what is known of the callee -/
theorem pw_call0 {s : hS} {j2 : Nat} {As rest : List Value} {m : Nat} {h : List xC} {r : Option Value} {h' : List xC} {d' : Nat} {v : Option Value} {h1 : List xC} (hm : m + 1 ≤ N) (hR : h_Rel base s h)
    (k1 : ∀ d, pw inj2 sk base (N - 1) d none j2 0 (lv_args 0 As) [] s C)
    (k2 : ∀ v n sl SH FI FL FR, pk n SH FR → C v (n, sl, SH, FI, FL, FR) → pw inj sk base N d none j (pc + 3) L ((inj2 v).toList ++ rest) (n, sl, SH, FI, FL, FR) (A v n sl SH FI FL FR))
    (g1 : x_go sk vwCl x_kn x_Ts x_AO xMM base m d' none j2 (0, lv_args 0 As, [], h) v h1) (g2 : x_go sk vwCl x_kn x_Ts x_AO xMM base m d none j (pc + 3, L, v.toList ++ rest, h1) r h') : ∃ x s', r = inj x ∧ h_Rel base s' h' ∧ pk s'.1 s'.2.2.1 s'.2.2.2.2.2 ∧ P_bi C A x s' := by
  obtain ⟨x1, s1, e1, hR1, hp1, c1⟩ := k1 d' m (by omega) h v h1 hR g1
  subst e1
  obtain ⟨n1, sl1, SH1, FI1, FL1, FR1⟩ := s1
  obtain ⟨x, s', e4, q1, hp0, q2⟩ := k2 x1 n1 sl1 SH1 FI1 FL1 FR1 hp1 c1 m (by omega) h1 r h' hR1 g2
  exact ⟨x, s', e4, q1, hp0, x1, n1, sl1, SH1, FI1, FL1, FR1, c1, q2⟩
theorem pw_callV {idx j2 c : Nat} {y2 : MethodName} {Bs rest st0 : List Value} {L2 : xL} (q : x_at xMM j pc (.invokevirtual idx) 3 y nL ret) (hu : x_uM y.cls idx y2) (hj : x_uJ y2 j2) (hn : x_pn y2 Bs.length) (hcl : y2.cls ≠ "java/lang/String") (hcn : y2 ≠ ⟨"[I", "clone", "()Ljava/lang/Object;"⟩) (hst : st0 = Bs.reverse ++ .ref (base + c) :: rest) (hL : lv_args 0 (.ref (base + c) :: Bs) = L2)
    (k1 : ∀ d, pw inj2 sk base (N - 1) d none j2 0 L2 [] (n, sl, SH, FI, FL, FR) C)
    (k2 : ∀ v n sl SH FI FL FR, pk n SH FR → C v (n, sl, SH, FI, FL, FR) → pw inj sk base N d none j (pc + 3) L ((inj2 v).toList ++ rest) (n, sl, SH, FI, FL, FR) (A v n sl SH FI FL FR)) : pw inj sk base N d none j pc L st0 (n, sl, SH, FI, FL, FR) (P_bi C A) :=
  pw_inv q (fun m hm h r h' hR hh => by
    rcases hh with ⟨b, hi | hi, hg⟩ | ⟨hr, -⟩ | ⟨d', j3, y3, cc3, nL3, ret3, As, rest3, v, h1, -, -, hM3, hc, -, g1, g2⟩ | ⟨_, _, _, hc, _⟩
    · exact hi.elim
    · exact hi.elim
    · exact hr.elim
    · obtain ⟨-, -, -, -, -, hlk, -, -, hh⟩ := hc
      have e1 := hu y3 hlk
      subst e1
      have e2 := hj j3 _ _ _ hM3
      subst e2
      rcases hh with ⟨q2, ci, fs, T, N2, Bs2, rfl, e, -, -, hp⟩ | ⟨k, Bs2, -, hs, -⟩
      · have hl := x_pn_u hp hn
        dsimp only at e
        rw [hst] at e
        obtain ⟨e3, e4⟩ := x_app_u e (by simp [hl])
        have e5 : Bs = Bs2 := by simpa using e3
        have e6 := (List.cons.inj e4).1
        have e7 := (List.cons.inj e4).2
        subst e5; subst e7
        rw [← e6] at g1
        rw [← hL] at k1
        exact pw_call0 hm hR k1 k2 g1 g2
      · exact absurd hs hcl
    · exfalso
      obtain ⟨-, hlk, -⟩ := hc
      exact hcn (hu _ (Or.inl hlk)).symm)
theorem pw_callVo {idx j2 : Nat} {o : Option Nat} {y2 : MethodName} {Bs rest st0 : List Value} {L2 : Nat → xL} {C : Nat → τ → hS → Prop} {A : Nat → τ → Nat → Nat → (Nat → Nat × Nat) → (Nat → Nat → Int32) → (Nat → Nat → Int64) → (Nat → Nat → Option Nat) → ρ → hS → Prop} (q : x_at xMM j pc (.invokevirtual idx) 3 y nL ret) (hu : x_uM y.cls idx y2) (hj : x_uJ y2 j2) (hn : x_pn y2 Bs.length) (hcl : y2.cls ≠ "java/lang/String") (hcn : y2 ≠ ⟨"[I", "clone", "()Ljava/lang/Object;"⟩) (hst : st0 = Bs.reverse ++ va_rf (h_rf base o) :: rest) (hL : ∀ c, lv_args 0 (.ref (base + c) :: Bs) = L2 c)
    (k1 : ∀ c, o = some c → ∀ d, pw inj2 sk base (N - 1) d none j2 0 (L2 c) [] (n, sl, SH, FI, FL, FR) (C c))
    (k2 : ∀ c, o = some c → ∀ v n sl SH FI FL FR, pk n SH FR → C c v (n, sl, SH, FI, FL, FR) → pw inj sk base N d none j (pc + 3) L ((inj2 v).toList ++ rest) (n, sl, SH, FI, FL, FR) (A c v n sl SH FI FL FR)) : pw inj sk base N d none j pc L st0 (n, sl, SH, FI, FL, FR) (P_sm o (fun c => P_bi (C c) (A c))) := by
  cases o with
  | none =>
    refine pw_inv q (fun m hm h r h' hR hh => ?_)
    exfalso
    rcases hh with ⟨b, hi | hi, hg⟩ | ⟨hr, -⟩ | ⟨d', j3, y3, cc3, nL3, ret3, As, rest3, v, h1, -, -, hM3, hc, -, g1, g2⟩ | ⟨_, _, _, hc, _⟩
    · exact hi.elim
    · exact hi.elim
    · exact hr.elim
    · obtain ⟨-, -, -, -, -, hlk, -, -, hh⟩ := hc
      have e1 := hu y3 hlk
      subst e1
      rcases hh with ⟨q2, ci, fs, T, N2, Bs2, rfl, e, -, -, hp⟩ | ⟨k, Bs2, -, hs, -⟩
      · have hl := x_pn_u hp hn
        dsimp only at e
        rw [hst] at e
        obtain ⟨e3, e4⟩ := x_app_u e (by simp [hl])
        have e6 := (List.cons.inj e4).1
        cases e6
      · exact absurd hs hcl
    · obtain ⟨-, hlk, -⟩ := hc
      exact hcn (hu _ (Or.inl hlk)).symm
  | some c => exact pw_cons (pw_callV q hu hj hn hcl hcn hst (hL c) (k1 c rfl) (k2 c rfl)) (fun x s h => ⟨c, rfl, h⟩)
theorem pw_callS {idx j2 : Nat} {y2 : MethodName} {As rest st0 : List Value} {L2 : xL} (q : x_at xMM j pc (.invokestatic idx) 3 y nL ret) (hu : x_uM y.cls idx y2) (hj : x_uJ y2 j2) (hn : x_pn y2 As.length) (hac : y2 ≠ arraycopyName) (hst : st0 = As.reverse ++ rest) (hL : lv_args 0 As = L2)
    (k1 : ∀ d, pw inj2 sk base (N - 1) d none j2 0 L2 [] (n, sl, SH, FI, FL, FR) C)
    (k2 : ∀ v n sl SH FI FL FR, pk n SH FR → C v (n, sl, SH, FI, FL, FR) → pw inj sk base N d none j (pc + 3) L ((inj2 v).toList ++ rest) (n, sl, SH, FI, FL, FR) (A v n sl SH FI FL FR)) : pw inj sk base N d none j pc L st0 (n, sl, SH, FI, FL, FR) (P_bi C A) :=
  pw_inv q (fun m hm h r h' hR hh => by
    rcases hh with ⟨b, hi | hi, hg⟩ | ⟨hr, -⟩ | ⟨d', j3, y3, cc3, nL3, ret3, As2, rest3, v, h1, -, -, hM3, hc, -, g1, g2⟩ | ⟨_, _, _, hc, _⟩
    · exact hi.elim
    · exact hi.elim
    · exact hr.elim
    · obtain ⟨-, -, -, -, -, hlk, e, hp, -⟩ := hc
      have e1 := hu y3 hlk
      subst e1
      have e2 := hj j3 _ _ _ hM3
      subst e2
      have hl := x_pn_u hp hn
      dsimp only at e
      rw [hst] at e
      obtain ⟨e3, e4⟩ := x_app_u e (by simp [hl])
      have e5 : As = As2 := by simpa using e3
      subst e5; subst e4
      rw [← hL] at k1
      exact pw_call0 hm hR k1 k2 g1 g2
    · exfalso
      obtain ⟨-, hlk, -⟩ := hc
      exact hac (hu _ (Or.inl hlk)).symm)
theorem pw_callN {idx j2 c : Nat} {y2 : MethodName} {Bs rest st0 : List Value} {L2 : xL} (q : x_at xMM j pc (.invokespecial idx) 3 y nL ret) (hu : x_uM y.cls idx y2) (hj : x_uJ y2 j2) (hn : x_pn y2 Bs.length) (hoi : y2 ≠ Jvm.Lib.objectInit) (hst : st0 = Bs.reverse ++ .ref (base + c) :: rest) (hL : lv_args 0 (.ref (base + c) :: Bs) = L2)
    (k1 : ∀ d, pw inj2 sk base (N - 1) d none j2 0 L2 [] (n, sl, SH, FI, FL, FR) C)
    (k2 : ∀ v n sl SH FI FL FR, pk n SH FR → C v (n, sl, SH, FI, FL, FR) → pw inj sk base N d none j (pc + 3) L ((inj2 v).toList ++ rest) (n, sl, SH, FI, FL, FR) (A v n sl SH FI FL FR)) : pw inj sk base N d none j pc L st0 (n, sl, SH, FI, FL, FR) (P_bi C A) :=
  pw_inv q (fun m hm h r h' hR hh => by
    rcases hh with ⟨b, hi | hi, hg⟩ | ⟨hr, -⟩ | ⟨d', j3, y3, cc3, nL3, ret3, As, rest3, v, h1, -, -, hM3, hc, -, g1, g2⟩ | ⟨_, _, _, hc, _⟩
    · exact hi.elim
    · exact hi.elim
    · exact hr.elim
    · obtain ⟨-, -, -, -, -, hlk, -, q2, Bs2, rfl, e, hp, -⟩ := hc
      have e1 := hu y3 hlk
      subst e1
      have e2 := hj j3 _ _ _ hM3
      subst e2
      have hl := x_pn_u hp hn
      dsimp only at e
      rw [hst] at e
      obtain ⟨e3, e4⟩ := x_app_u e (by simp [hl])
      have e5 : Bs = Bs2 := by simpa using e3
      have e6 := (List.cons.inj e4).1
      have e7 := (List.cons.inj e4).2
      subst e5; subst e7
      rw [← e6] at g1
      rw [← hL] at k1
      exact pw_call0 hm hR k1 k2 g1 g2
    · exfalso
      obtain ⟨-, -, -, -, -, hlk, -⟩ := hc
      exact hoi (hu _ (Or.inl hlk)).symm)
end PC
end
