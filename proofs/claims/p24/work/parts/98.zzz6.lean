/-! THE REFERENCE'S MEANINGS of expressions: its walk over the kept tokens, with values. -/
theorem lc_op_ok (k w : Int) : 26 ≤ lc_op k w ∧ lc_op k w ≤ 46 ∧ lc_op k w ≠ 31 ∧ lc_op k w ≠ 32 ∧ lc_op k w ≠ 35 ∧ lc_op k w ≠ 40 := by
  unfold lc_op
  repeat' split
  all_goals omega
/-- an operator that waits: how it binds, its code, whether all was live, whether its E is so -/
abbrev mq_E : Type := Int × Int × Bool × Bool
/-- the values (the last first; none: whatever it is), and the fault, or whether this part is live -/
abbrev mq_Q : Type := List (Option Int64) × (Int ⊕ Bool)
abbrev mq_S : Type := Nat × Bool × List mq_E × mq_Q
def mq_ps (x : xX) (q : mq_Q) : mq_Q := match q.2 with
  | .inr true => (match x with
    | .inl e => (none :: q.1, .inl e)
    | .inr v => (some v :: q.1, .inr true))
  | .inr false => (none :: q.1, .inr false)
  | .inl e => (none :: q.1, .inl e)
def mq_1 (E : ms_E) (k : Int) (x : xX) : xX := if k < 256 then xe1 E k 0 x else xe1 E 148 (k - 256) x
def mq_u (E : ms_E) (k : Int) (q : mq_Q) : Option mq_Q := match q.1 with
  | [] => none
  | x :: R => (match q.2 with
    | .inr true => (match x with
      | none => none
      | some v => some (mq_ps (mq_1 E k (.inr v)) (R, .inr true)))
    | .inr false => some (none :: R, .inr false)
    | .inl e => some (none :: R, .inl e))
def mq_b (c : Int) (q : mq_Q) : Option mq_Q := match q.1 with
  | [] => none
  | y :: R => (match R with
    | [] => none
    | x :: R2 => (match q.2 with
      | .inr true => (match y with
        | none => none
        | some b => (match x with
          | none => none
          | some a => some (mq_ps (xe2 c (.inr a) (.inr b)) (R2, .inr true))))
      | .inr false => some (none :: R2, .inr false)
      | .inl e => some (none :: R2, .inl e)))
/-- behind a ?: what is left, was it live, is it so -/
def mq_as (q : mq_Q) : Option (mq_Q × Bool × Bool) := match q.1 with
  | [] => none
  | x :: R => (match q.2 with
    | .inr true => (match x with
      | none => none
      | some v => some ((R, .inr (decide (v.toInt ≠ 0))), true, decide (v.toInt ≠ 0)))
    | .inr false => some ((R, .inr false), false, false)
    | .inl e => some ((R, .inl e), false, false))
/-- at its : -/
def mq_co (wl so : Bool) (q : mq_Q) : mq_Q := match q.2 with
  | .inr _ => (q.1, .inr (wl && !so))
  | .inl e => (q.1, .inl e)
/-- at its end -/
def mq_el (wl so : Bool) (q : mq_Q) : Option mq_Q := match q.1 with
  | [] => none
  | y :: R => (match R with
    | [] => none
    | x :: R2 => (match q.2 with
      | .inr _ => some ((if wl = true then (if so = true then x else y) else none) :: R2, .inr wl)
      | .inl e => some (none :: R2, .inl e)))
def mq_top (S : List mq_E) : Int := match S with
  | [] => -11
  | e :: _ => e.1
def mq_fl : List mq_E → mq_Q → Option mq_Q
  | [], q => some q
  | e :: P, q => match mq_b e.2.1 q with
    | none => none
    | some q2 => mq_fl P q2
def mq_rd (b : Int) : List mq_E → mq_Q → Option (List mq_E × mq_Q)
  | [], q => some ([], q)
  | e :: S, q => if b ≤ e.1 then (match mq_b e.2.1 q with
    | none => none
    | some q2 => mq_rd b S q2) else some (e :: S, q)
def mq_fin (E : ms_E) : List mq_E → mq_Q → Option (List mq_E × mq_Q)
  | [], q => some ([], q)
  | e :: S, q => if e.1 = 9 then (match mq_u E e.2.1 q with
    | none => none
    | some q2 => mq_fin E S q2) else some (e :: S, q)
def mq_all : List mq_E → mq_Q → Option (List mq_E × mq_Q)
  | [], q => some ([], q)
  | e :: S, q => if 1 ≤ e.1 then (match mq_b e.2.1 q with
    | none => none
    | some q2 => mq_all S q2) else if e.1 = -3 then (match mq_el e.2.2.1 e.2.2.2 q with
    | none => none
    | some q2 => mq_all S q2) else some (e :: S, q)
def mq_c (k w : Int) : Int := if k = 4 then 256 + w else if k = 2 then 155 else if w = 45 then 31 else 32
def mq_at (K W : Nat → Int) (E : ms_E) (fb : xX) (t : Nat) : Nat × xX :=
  if K t = 3 then (t + 1, .inr (Int64.ofInt (W t)))
  else if K t = 5 then (t + 2, .inr (ms_rg E (W (t + 1)).toNat))
  else if W t = 5 then (t + 1, x_cfa E)
  else if W t = 6 then (t + 1, x_obj E)
  else (t + 1, fb)
def mq_opd (K W : Nat → Int) (E : ms_E) (fb : xX) (t : Nat) (S : List mq_E) (q : mq_Q) : Option mq_S :=
  if lc_uy (K t) (W t) = true then some (t + 1, true, (9, mq_c (K t) (W t), false, false) :: S, q)
  else if K t = 5 ∧ W t = 40 then some (t + 1, true, (-1, 0, false, false) :: S, q)
  else if lc_at K W false t = none then none
  else match mq_fin E S (mq_ps (mq_at K W E fb t).2 q) with
    | none => none
    | some r => some ((mq_at K W E fb t).1, false, r)
def mq_end (K W : Nat → Int) (E : ms_E) (t : Nat) (r : List mq_E × mq_Q) : Option (mq_S ⊕ (Nat × mq_Q)) := match r.1 with
  | [] => some (.inr (t, r.2))
  | e :: S =>
    if K t = 5 ∧ W t = 58 ∧ e.1 = -2 then some (.inl (t + 1, true, (-3, e.2.1, e.2.2.1, e.2.2.2) :: S, mq_co e.2.2.1 e.2.2.2 r.2))
    else if K t = 5 ∧ W t = 41 ∧ e.1 = -1 then (match mq_fin E S r.2 with
      | none => none
      | some r2 => some (.inl (t + 1, false, r2)))
    else some (.inr (t, r.2))
def mq_opr (K W : Nat → Int) (E : ms_E) (t : Nat) (S : List mq_E) (q : mq_Q) : Option (mq_S ⊕ (Nat × mq_Q)) :=
  if au_bn (K t) (W t) = 0 then
    if K t = 5 ∧ W t = 63 then (match mq_rd 1 S q with
      | none => none
      | some r => (match mq_as r.2 with
        | none => none
        | some a => some (.inl (t + 1, true, (-2, 0, a.2.1, a.2.2) :: r.1, a.1))))
    else (match mq_all S q with
      | none => none
      | some r => mq_end K W E t r)
  else (match mq_rd (au_bn (K t) (W t)) S q with
    | none => none
    | some r => some (.inl (t + 1, true, (au_bn (K t) (W t), lc_op (K t) (W t), false, false) :: r.1, r.2)))
def mq_run (K W : Nat → Int) (E : ms_E) (fb : xX) : Nat → mq_S → Option (Option (Nat × mq_Q))
  | 0, _ => none
  | n + 1, (t, true, S, q) => (match mq_opd K W E fb t S q with
    | none => some none
    | some s => mq_run K W E fb n s)
  | n + 1, (t, false, S, q) => (match mq_opr K W E t S q with
    | none => some none
    | some (.inl s) => mq_run K W E fb n s
    | some (.inr r) => some (some r))
section MQ
variable {K W : Nat → Int} {E : ms_E} {fb x y z v : xX} {q q2 : mq_Q} {S : List mq_E}
theorem mq_1_f {k e : Int} : mq_1 E k (.inl e) = .inl e := by
  unfold mq_1
  split <;> rfl
theorem mq_u_ps {k : Int} : mq_u E k (mq_ps x q) = some (mq_ps (mq_1 E k x) q) := by
  obtain ⟨V, m⟩ := q
  match m, x with
  | .inr true, .inl e =>
    rw [mq_1_f]
    rfl
  | .inr true, .inr v => rfl
  | .inr false, x => rfl
  | .inl e, x => rfl
theorem mq_b_ps {c : Int} : mq_b c (mq_ps y (mq_ps x q)) = some (mq_ps (xe2 c x y) q) := by
  obtain ⟨V, m⟩ := q
  match m, x, y with
  | .inr true, .inl e, y => rfl
  | .inr true, .inr a, .inl e => rfl
  | .inr true, .inr a, .inr b => rfl
  | .inr false, x, y => rfl
  | .inl e, x, y => rfl
def mq_ch (x y z : xX) : xX := match x with
  | .inl e => .inl e
  | .inr t => if t.toInt = 0 then z else y
theorem mq_ch_ps : ∃ q1 wl so, mq_as (mq_ps x q) = some (q1, wl, so) ∧ mq_el wl so (mq_ps z (mq_co wl so (mq_ps y q1))) = some (mq_ps (mq_ch x y z) q) := by
  obtain ⟨V, m⟩ := q
  match m, x with
  | .inl e, x => exact ⟨_, _, _, rfl, rfl⟩
  | .inr false, x => exact ⟨_, _, _, rfl, rfl⟩
  | .inr true, .inl e => exact ⟨_, _, _, rfl, rfl⟩
  | .inr true, .inr t =>
    refine ⟨(V, .inr (decide (t.toInt ≠ 0))), true, decide (t.toInt ≠ 0), rfl, ?_⟩
    by_cases h : t.toInt = 0
    · rw [show decide (t.toInt ≠ 0) = false from decide_eq_false (fun e => e h), show mq_ch (.inr t) y z = z from if_pos h]
      match z with
      | .inl e => rfl
      | .inr w => rfl
    · rw [show decide (t.toInt ≠ 0) = true from decide_eq_true h, show mq_ch (.inr t) y z = y from if_neg h]
      match y with
      | .inl e => rfl
      | .inr w => rfl
theorem mq_fl_app : ∀ {P Q : List mq_E} {q q2 : mq_Q}, mq_fl P q = some q2 → mq_fl (P ++ Q) q = mq_fl Q q2
  | [], Q, q, q2, h => by
    rw [show q = q2 from Option.some.inj h]
    rfl
  | e :: P, Q, q, q2, h => by
    show (match mq_b e.2.1 q with
      | none => none
      | some q2 => mq_fl (P ++ Q) q2) = _
    rw [mq_fl] at h
    cases hb : mq_b e.2.1 q with
    | none => rw [hb] at h; cases h
    | some q3 =>
      rw [hb] at h
      have h : mq_fl P q3 = some q2 := h
      exact mq_fl_app h
theorem mq_rd_app {b : Int} : ∀ {P S : List mq_E} {q q2 : mq_Q}, (∀ e, e ∈ P → b ≤ e.1) → mq_fl P q = some q2 → mq_rd b (P ++ S) q = mq_rd b S q2
  | [], S, q, q2, _, h => by
    rw [show q = q2 from Option.some.inj h]
    rfl
  | e :: P, S, q, q2, hP, h => by
    show (if b ≤ e.1 then (match mq_b e.2.1 q with
      | none => none
      | some q2 => mq_rd b (P ++ S) q2) else some (e :: (P ++ S), q)) = _
    rw [if_pos (hP e (List.mem_cons_self))]
    rw [mq_fl] at h
    cases hb : mq_b e.2.1 q with
    | none => rw [hb] at h; cases h
    | some q3 =>
      rw [hb] at h
      have h : mq_fl P q3 = some q2 := h
      exact mq_rd_app (fun e2 he => hP e2 (List.mem_cons_of_mem _ he)) h
theorem mq_all_app : ∀ {P S : List mq_E} {q q2 : mq_Q}, (∀ e, e ∈ P → 1 ≤ e.1) → mq_fl P q = some q2 → mq_all (P ++ S) q = mq_all S q2
  | [], S, q, q2, _, h => by
    rw [show q = q2 from Option.some.inj h]
    rfl
  | e :: P, S, q, q2, hP, h => by
    show (if 1 ≤ e.1 then (match mq_b e.2.1 q with
      | none => none
      | some q2 => mq_all (P ++ S) q2) else _) = _
    rw [if_pos (hP e (List.mem_cons_self))]
    rw [mq_fl] at h
    cases hb : mq_b e.2.1 q with
    | none => rw [hb] at h; cases h
    | some q3 =>
      rw [hb] at h
      have h : mq_fl P q3 = some q2 := h
      exact mq_all_app (fun e2 he => hP e2 (List.mem_cons_of_mem _ he)) h
theorem mq_rd_stop {b : Int} (h : mq_top S < b) : mq_rd b S q = some (S, q) := by
  cases S with
  | nil => rfl
  | cons e S =>
    have h2 : e.1 < b := h
    rw [mq_rd, if_neg (by omega)]
theorem mq_fin_stop (h : mq_top S ≠ 9) : mq_fin E S q = some (S, q) := by
  cases S with
  | nil => rfl
  | cons e S =>
    have h2 : e.1 ≠ 9 := h
    rw [mq_fin, if_neg h2]
theorem mq_all_stop (h : mq_top S < 1) (h3 : mq_top S ≠ -3) : mq_all S q = some (S, q) := by
  cases S with
  | nil => rfl
  | cons e S =>
    have h2 : e.1 < 1 := h
    have h4 : e.1 ≠ -3 := h3
    rw [mq_all, if_neg (by omega), if_neg h4]
theorem mq_fin_9 {k : Int} {a b : Bool} : mq_fin E ((9, k, a, b) :: S) (mq_ps v q) = mq_fin E S (mq_ps (mq_1 E k v) q) := by
  show (if (9 : Int) = 9 then (match mq_u E k (mq_ps v q) with
    | none => none
    | some q2 => mq_fin E S q2) else _) = _
  rw [if_pos rfl, mq_u_ps]
theorem mq_fin_ps : ∀ (S : List mq_E) (v : xX), ∃ S2 v2, mq_fin E S (mq_ps v q) = some (S2, mq_ps v2 q)
  | [], v => ⟨[], v, rfl⟩
  | (b, k, w1, w2) :: S, v => by
    by_cases h : b = 9
    · subst h
      rw [mq_fin_9]
      exact mq_fin_ps S _
    · exact ⟨_, v, mq_fin_stop h⟩
theorem mq_all_3 {wl so : Bool} (h : mq_el wl so q = some q2) : mq_all ((-3, 0, wl, so) :: S) q = mq_all S q2 := by
  show (if (1 : Int) ≤ -3 then _ else if (-3 : Int) = -3 then (match mq_el wl so q with
    | none => none
    | some q2 => mq_all S q2) else _) = _
  rw [if_neg (by first | decide | (simp; done) | (simp [ms_0]; done)), if_pos rfl, h]
def mq_to (K W : Nat → Int) (E : ms_E) (fb : xX) (a b : mq_S) : Prop := ∃ k, ∀ n, mq_run K W E fb (k + n) a = mq_run K W E fb n b
theorem mq_to_rf {a : mq_S} : mq_to K W E fb a a := ⟨0, fun n => by rw [Nat.zero_add]⟩
theorem mq_to_tr {a b c : mq_S} (h : mq_to K W E fb a b) (h2 : mq_to K W E fb b c) : mq_to K W E fb a c := by
  obtain ⟨k, hk⟩ := h
  obtain ⟨m, hm⟩ := h2
  exact ⟨k + m, fun n => by rw [Nat.add_assoc, hk, hm]⟩
theorem mq_to_d {t : Nat} {s : mq_S} (h : mq_opd K W E fb t S q = some s) : mq_to K W E fb (t, true, S, q) s := ⟨1, fun n => by rw [Nat.add_comm 1 n, mq_run, h]⟩
theorem mq_to_r {t : Nat} {s : mq_S} (h : mq_opr K W E t S q = some (.inl s)) : mq_to K W E fb (t, false, S, q) s := ⟨1, fun n => by rw [Nat.add_comm 1 n, mq_run, h]⟩
theorem mq_mono : ∀ (n : Nat) (s : mq_S) (r : Option (Nat × mq_Q)), mq_run K W E fb n s = some r → mq_run K W E fb (n + 1) s = some r
  | 0, _, _, h => by cases h
  | n + 1, (t, true, S, q), r, h => by
    rw [mq_run] at h ⊢
    cases hd : mq_opd K W E fb t S q with
    | none => rw [hd] at h; exact h
    | some s =>
      rw [hd] at h
      exact mq_mono n s r h
  | n + 1, (t, false, S, q), r, h => by
    rw [mq_run] at h ⊢
    match hd : mq_opr K W E t S q with
    | none => rw [hd] at h; exact h
    | some (.inl s) =>
      rw [hd] at h
      exact mq_mono n s r h
    | some (.inr r2) => rw [hd] at h; exact h
theorem mq_mono2 {n m : Nat} {s : mq_S} {r : Option (Nat × mq_Q)} (h : mq_run K W E fb n s = some r) (hm : n ≤ m) : mq_run K W E fb m s = some r := by
  induction hm with
  | refl => exact h
  | step _ ih => exact mq_mono _ _ _ ih
theorem mq_run_u {n m : Nat} {s : mq_S} {r r2 : Option (Nat × mq_Q)} (h : mq_run K W E fb n s = some r) (h2 : mq_run K W E fb m s = some r2) : r = r2 := by
  have a := mq_mono2 (m := n + m) h (by omega)
  have b := mq_mono2 (m := n + m) h2 (by omega)
  rw [a] at b
  exact Option.some.inj b
theorem x_ad0 : x_ad x 0 = x := by
  match x with
  | .inl e => rfl
  | .inr t =>
    show Sum.inr (t + Int64.ofInt 0) = _
    rw [show Int64.ofInt 0 = 0 by first | decide | (simp; done) | (simp [ms_0]; done), Int64.add_zero]
theorem xe2_34 {p : Int} : xe2 34 x (.inr (Int64.ofInt p)) = x_ad x p := by
  match x with
  | .inl e => rfl
  | .inr t =>
    show (if ((34 : Int) = 27 ∨ (34 : Int) = 29) ∧ (Int64.ofInt p).toInt = 0 then Sum.inl 6 else Sum.inr (ms_wk 34 t (Int64.ofInt p))) = _
    rw [if_neg (fun e => absurd e.1 (by first | decide | (simp; done) | (simp [ms_0]; done)))]
    rfl
theorem xe2_28 {p : Int} : xe2 28 x (.inr (Int64.ofInt p)) = x_ad x (-p) := by
  match x with
  | .inl e => rfl
  | .inr t =>
    show (if ((28 : Int) = 27 ∨ (28 : Int) = 29) ∧ (Int64.ofInt p).toInt = 0 then Sum.inl 6 else Sum.inr (ms_wk 28 t (Int64.ofInt p))) = Sum.inr (t + Int64.ofInt (-p))
    rw [if_neg (fun e => absurd e.1 (by first | decide | (simp; done) | (simp [ms_0]; done))), Int64.ofInt_neg, ← Int64.sub_eq_add_neg]
    rfl
/-- % r and fb -/
theorem mq_bs_ok {t b : Nat} {w : Int} (hg : tk_rg K W) (h : lc_bs K W t = some (b, w)) : (mq_at K W E fb t).1 = b ∧ ∀ p : Int, -999999999999999999 ≤ p ∧ p ≤ 999999999999999999 → lxx (w :: lc_s 9 p) ∧ ce E fb (w :: lc_s 9 p) (x_ad (mq_at K W E fb t).2 p) := by
  unfold lc_bs at h
  by_cases h1 : K t = 5 ∧ W t = 37
  · rw [if_pos h1] at h
    by_cases h2 : K (t + 1) = 3 ∧ W (t + 1) ≤ 31
    · rw [if_pos h2] at h
      cases h
      have hr := (hg (t + 1)).1 h2.1
      unfold mq_at
      rw [if_neg (by omega), if_pos h1.1]
      exact ⟨rfl, fun p hp => ⟨lxx_s (by omega) hp, ce_rg (by omega) hp⟩⟩
    · rw [if_neg h2] at h
      cases h
  · rw [if_neg h1] at h
    by_cases h2 : K t = 2 ∧ W t = 4
    · rw [if_pos h2] at h
      cases h
      unfold mq_at
      rw [if_neg (by omega), if_neg (by omega), if_neg (by omega), if_neg (by omega)]
      exact ⟨rfl, fun p hp => ⟨lxx_s (Or.inr rfl) hp, ce_fb hp⟩⟩
    · rw [if_neg h2] at h
      cases h
theorem mq_at_ok {t t1 : Nat} {c : List Int} (hg : tk_rg K W) (h : lc_at K W false t = some (t1, c)) : (mq_at K W E fb t).1 = t1 ∧ lxx c ∧ ce E fb c (mq_at K W E fb t).2 := by
  unfold lc_at at h
  by_cases h3 : K t = 3
  · rw [if_pos h3] at h
    cases h
    have hr := (hg t).1 h3
    unfold mq_at
    rw [if_pos h3]
    exact ⟨rfl, lxx_c hr.1, ce_c hr.1 hr.2⟩
  rw [if_neg h3] at h
  by_cases h5 : K t = 2 ∧ W t = 5
  · rw [if_pos h5] at h
    cases h
    unfold mq_at
    rw [if_neg h3, if_neg (by omega), if_pos h5.2]
    exact ⟨rfl, lxx_op (by first | decide | (simp; done) | (simp [ms_0]; done)), ce_cf⟩
  rw [if_neg h5] at h
  by_cases h6 : K t = 2 ∧ W t = 6
  · rw [if_pos h6] at h
    cases h
    unfold mq_at
    rw [if_neg h3, if_neg (by omega), if_neg (by omega), if_pos h6.2]
    exact ⟨rfl, lxx_op (by first | decide | (simp; done) | (simp [ms_0]; done)), ce_ob⟩
  rw [if_neg h6] at h
  cases hb : lc_bs K W t with
  | none => rw [hb] at h; cases h
  | some p =>
    obtain ⟨b, w⟩ := p
    rw [hb] at h
    have h : (if (false && lc_ad K W b) = true then some (b + 2, w :: lc_s 9 (lc_sg K W b)) else some (b, w :: lc_s 9 0)) = some (t1, c) := h
    rw [if_neg (by simp)] at h
    cases h
    obtain ⟨q1, q2⟩ := mq_bs_ok (E := E) (fb := fb) hg hb
    obtain ⟨q3, q4⟩ := q2 0 (by first | decide | (simp; done) | (simp [ms_0]; done))
    rw [x_ad0] at q4
    exact ⟨q1, q3, q4⟩
end MQ
