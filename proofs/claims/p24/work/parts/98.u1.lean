/-! THE LANGUAGE compiled: the bytes of an expression by its tokens (K kinds, W worths, as the reference counts them), from the left, by levels: 0 a choice, 1 .. 7 the signs between two by how they bind, 8 what stands alone. -/
def lc_by (v : Int) : Nat → List Int
  | 0 => []
  | n + 1 => v % 256 :: lc_by (v / 256) n
def lc_u : Nat → Int → List Int
  | 0, v => [v]
  | n + 1, v => if 127 < v then (v % 128 + 128) :: lc_u n (v / 128) else [v]
def lc_s : Nat → Int → List Int
  | 0, v => [v % 128]
  | n + 1, v => if v < -64 ∨ 63 < v then (v % 128 + 128) :: lc_s n (v / 128) else [v % 128]
def lc_c (v : Int) : List Int :=
  if v ≤ 31 then [48 + v] else if v ≤ 255 then 8 :: lc_by v 1 else if v ≤ 65535 then 10 :: lc_by v 2 else if v ≤ 4294967295 then 12 :: lc_by v 4 else 14 :: lc_by v 8
def lc_un (k w : Int) : List Int := if k = 2 then [155] else if k = 4 then (if w = 8 then [6] else [148, w]) else if w = 45 then [31] else [32]
def lc_op (k w : Int) : Int :=
  if k = 2 then (if w = 8 then 27 else 29) else
  if w = 42 then 30 else if w = 43 then 34 else if w = 45 then 28 else if w = 261 then 36 else if w = 262 then 38 else if w = 263 then 37 else
  if w = 257 then 41 else if w = 258 then 46 else if w = 60 then 45 else if w = 259 then 44 else if w = 62 then 43 else if w = 260 then 42 else
  if w = 38 then 26 else if w = 94 then 39 else 33
def lc_ch (c2 c3 : List Int) : List Int := 40 :: (lc_by (c3.length + 3) 2 ++ (c3 ++ 47 :: (lc_by c2.length 2 ++ c2)))
/-- a NUMBER alone at i -/
def lc_al (K W : Nat → Int) (i : Nat) : Bool := decide (K i = 3 ∧ au_bn (K (i + 1)) (W (i + 1)) ≠ 7)
/-- + or - and a NUMBER alone from b on -/
def lc_ad (K W : Nat → Int) (b : Nat) : Bool := decide (K b = 5 ∧ (W b = 43 ∨ W b = 45)) && lc_al K W (b + 1)
/-- % r or fb at t: where it ends, its first byte -/
def lc_bs (K W : Nat → Int) (t : Nat) : Option (Nat × Int) :=
  if K t = 5 ∧ W t = 37 then (if K (t + 1) = 3 ∧ W (t + 1) ≤ 31 then some (t + 2, 112 + W (t + 1)) else none) else if K t = 2 ∧ W t = 4 then some (t + 1, 145) else none
def lc_sg (K W : Nat → Int) (b : Nat) : Int := if W b = 43 then W (b + 1) else - W (b + 1)
/-- what stands alone: a number, % r, fb, cfa, obj; with y also the number behind % r and fb -/
def lc_at (K W : Nat → Int) (y : Bool) (t : Nat) : Option (Nat × List Int) :=
  if K t = 3 then some (t + 1, lc_c (W t)) else
  if K t = 2 ∧ W t = 5 then some (t + 1, [156]) else
  if K t = 2 ∧ W t = 6 then some (t + 1, [151]) else
  match lc_bs K W t with
  | none => none
  | some (b, x) => if (y && lc_ad K W b) = true then some (b + 2, x :: lc_s 9 (lc_sg K W b)) else some (b, x :: lc_s 9 0)
def lc_cm (K W : Nat → Int) (t : Nat) : Bool := match lc_bs K W t with
  | none => false
  | some (b, _) => lc_ad K W b
def lc_uy (k w : Int) : Bool := decide (k = 4 ∨ (k = 5 ∧ (w = 45 ∨ w = 126)) ∨ (k = 2 ∧ w = 7))
def lc_pr (sub : Nat → Option (Nat × List Int)) (K W : Nat → Int) (l : Nat) : Nat → Nat → List Int → Option (Nat × List Int)
  | 0, _, _ => none
  | n + 1, t, c =>
    if au_bn (K t) (W t) = (l : Int) then
      if (decide (l = 6 ∧ W t = 43) && lc_al K W (t + 1)) = true then lc_pr sub K W l n (t + 2) (c ++ 35 :: lc_u 9 (W (t + 1)))
      else match sub (t + 1) with
        | none => none
        | some (t1, c1) => if l = 4 then some (t1, c ++ (c1 ++ [lc_op (K t) (W t)])) else lc_pr sub K W l n t1 (c ++ (c1 ++ [lc_op (K t) (W t)]))
    else some (t, c)
def lc_ps (K W : Nat → Int) : Nat → Nat → Int → Nat → Option (Nat × List Int)
  | 0, _, _, _ => none
  | f + 1, l, o, t =>
    if l = 0 then
      match lc_ps K W f 1 o t with
      | none => none
      | some (t1, c1) =>
        if K t1 = 5 ∧ W t1 = 63 then
          if 12 ≤ o then none else
          match lc_ps K W f 0 (o + 1) (t1 + 1) with
          | none => none
          | some (t2, c2) =>
            if K t2 = 5 ∧ W t2 = 58 then
              match lc_ps K W f 0 (o + 1) (t2 + 1) with
              | none => none
              | some (t3, c3) => some (t3, c1 ++ lc_ch c2 c3)
            else none
        else some (t1, c1)
    else if l = 8 then
      if lc_uy (K t) (W t) = true then
        if 12 ≤ o then none else
        match lc_ps K W f 8 (o + 1) (t + 1) with
        | none => none
        | some (t1, c1) => some (t1, c1 ++ lc_un (K t) (W t))
      else if K t = 5 ∧ W t = 40 then
        if 12 ≤ o then none else
        match lc_ps K W f 0 (o + 1) (t + 1) with
        | none => none
        | some (t1, c1) => if K t1 = 5 ∧ W t1 = 41 then some (t1 + 1, c1) else none
      else lc_at K W false t
    else
      match (if (decide (l = 6) && lc_cm K W t) = true then lc_at K W true t else lc_ps K W f (l + 1) o t) with
      | none => none
      | some (t1, c1) => lc_pr (fun t' => lc_ps K W f (l + 1) o t') K W l f t1 c1
/-! The same by the reference's walk: the operators that wait (how they bind, what they write, where a choice's parts begin), what is open, the bytes. -/
abbrev f_E : Type := Int × List Int × Nat × Nat
abbrev f_St : Type := Nat × Bool × List f_E × Int × List Int
def f_top (S : List f_E) : Int := match S with
  | [] => -11
  | e :: _ => e.1
def f_pop (b : Int) : List f_E → List Int → List f_E × List Int
  | [], B => ([], B)
  | e :: S, B => if b ≤ e.1 then f_pop b S (B ++ e.2.1) else (e :: S, B)
def f_fin : List f_E → Int → List Int → List f_E × Int × List Int
  | [], o, B => ([], o, B)
  | e :: S, o, B => if e.1 = 9 then f_fin S (o - 1) (B ++ e.2.1) else (e :: S, o, B)
def f_turn (a m : Nat) (B : List Int) : List Int :=
  B.take a ++ (lc_by (((B.length - m : Nat) : Int) + 3) 2 ++ (B.drop m ++ 47 :: (lc_by ((m - a - 2 : Nat) : Int) 2 ++ (B.drop (a + 2)).take (m - a - 2))))
def f_all : List f_E → Int → List Int → List f_E × Int × List Int
  | [], o, B => ([], o, B)
  | e :: S, o, B => if 1 ≤ e.1 then f_all S o (B ++ e.2.1) else if e.1 = -3 then f_all S (o - 1) (f_turn e.2.2.1 e.2.2.2 B) else (e :: S, o, B)
def f_opd (K W : Nat → Int) (t : Nat) (S : List f_E) (o : Int) (B : List Int) : Option f_St :=
  if lc_uy (K t) (W t) = true then (if 12 ≤ o then none else some (t + 1, true, (9, lc_un (K t) (W t), 0, 0) :: S, o + 1, B)) else
  if K t = 5 ∧ W t = 40 then (if 12 ≤ o then none else some (t + 1, true, (-1, [], 0, 0) :: S, o + 1, B)) else
  match lc_at K W (decide (f_top S < 6)) t with
  | none => none
  | some (t1, c) => some (t1, false, f_fin S o (B ++ c))
def f_end (K W : Nat → Int) (t : Nat) : List f_E × Int × List Int → Option (f_St ⊕ (Nat × Int × List Int))
  | ([], o, B) => some (.inr (t, o, B))
  | (e :: S, o, B) =>
    if K t = 5 ∧ W t = 58 ∧ e.1 = -2 then some (.inl (t + 1, true, (-3, [], e.2.2.1, B.length) :: S, o, B)) else
    if K t = 5 ∧ W t = 41 ∧ e.1 = -1 then some (.inl (t + 1, false, f_fin S (o - 1) B)) else none
def f_opr (K W : Nat → Int) (t : Nat) (S : List f_E) (o : Int) (B : List Int) : Option (f_St ⊕ (Nat × Int × List Int)) :=
  if au_bn (K t) (W t) = 0 then
    if K t = 5 ∧ W t = 63 then (if 12 ≤ o then none else some (.inl (t + 1, true, (-2, [], (f_pop 1 S B).2.length + 1, 0) :: (f_pop 1 S B).1, o + 1, (f_pop 1 S B).2 ++ [40, 0, 0])))
    else f_end K W t (f_all S o B)
  else if (decide (au_bn (K t) (W t) = 6 ∧ W t = 43) && lc_al K W (t + 1)) = true then some (.inl (t + 2, false, (f_pop 6 S B).1, o, (f_pop 6 S B).2 ++ 35 :: lc_u 9 (W (t + 1))))
  else if au_bn (K t) (W t) = 4 ∧ f_top (f_pop 5 S B).1 = 4 then none
  else some (.inl (t + 1, true, (au_bn (K t) (W t), [lc_op (K t) (W t)], 0, 0) :: (f_pop (au_bn (K t) (W t)) S B).1, o, (f_pop (au_bn (K t) (W t)) S B).2))
def f_run (K W : Nat → Int) : Nat → f_St → Option (Nat × Int × List Int)
  | 0, _ => none
  | n + 1, (t, true, S, o, B) => match f_opd K W t S o B with
    | none => none
    | some s => f_run K W n s
  | n + 1, (t, false, S, o, B) => match f_opr K W t S o B with
    | none => none
    | some (.inl s) => f_run K W n s
    | some (.inr r) => some r
