/-! THE MACHINE OF RUNS, as a function: what an expression's bytes do to a stack, a hold and pieces. -/
/-- what operations ask for: registers, memory, expressions, FRAME, CFA's register, CFA's number, OBJECT, TLS -/
abbrev ms_E := (Nat → Int64) × (Nat → Int32) × (Nat → List Int32) × Int × Int × Int64 × Option Int64 × Option Int64
def ms_rg (E : ms_E) : Nat → Int64 := E.1
def ms_mm (E : ms_E) : Nat → Int32 := E.2.1
def ms_ex (E : ms_E) : Nat → List Int32 := E.2.2.1
def ms_fr (E : ms_E) : Int := E.2.2.2.1
def ms_cr (E : ms_E) : Int := E.2.2.2.2.1
def ms_co (E : ms_E) : Int64 := E.2.2.2.2.2.1
def ms_ob (E : ms_E) : Option Int64 := E.2.2.2.2.2.2.1
def ms_tl (E : ms_E) : Option Int64 := E.2.2.2.2.2.2.2
/-- a thing: its kind, its number, its block's bytes -/
abbrev ms_H := Int × Int64 × List Int32
/-- a piece: a thing, its bits, its first bit -/
abbrev ms_P := ms_H × Int × Int
/-- a run's state: the stack (t first), the hold, the pieces (the last one first) -/
abbrev ms_S := List Int64 × ms_H × List ms_P
def ms_0 : ms_H := (0, 0, [])
def ms_le : List Int32 → Int64
  | [] => 0
  | b :: r => (ms_le r <<< (((8 : Int32)).toInt64 &&& 63)) ||| b.toInt64
def ms_sx (a : Int32) (v : Int64) : Int64 := (v <<< ((((64 : Int32)) - (((8 : Int32)) * (a))).toInt64 &&& 63)) >>> ((((64 : Int32)) - (((8 : Int32)) * (a))).toInt64 &&& 63)
def ms_fx (bs : List Int32) (at_ n : Nat) : Int ⊕ (Int64 × Nat) := if bs.length < at_ + n then .inl 1 else .inr (ms_le ((bs.drop at_).take n), at_ + n)
def ms_fs (bs : List Int32) (at_ n : Nat) : Int ⊕ (Int64 × Nat) := if bs.length < at_ + n then .inl 1 else .inr (ms_sx (Int32.ofNat n) (ms_le ((bs.drop at_).take n)), at_ + n)
def ms_l7 (v : Int64) (b : Int32) (i : Nat) : Int64 := v ||| (((b &&& ((127 : Int32))).toInt64) <<< ((((7 : Int32)) * (Int32.ofNat i)).toInt64 &&& 63))
def ms_ls (v : Int64) (i : Nat) : Int64 := v ||| (((-1 : Int64)) <<< ((((7 : Int32)) * (Int32.ofNat i)).toInt64 &&& 63))
def ms_lb (sg : Bool) (bs : List Int32) : Nat → Nat → Nat → Int64 → Int ⊕ (Int64 × Nat)
  | 0, _, _, _ => .inl 15
  | f + 1, i, at_, v => match bs[at_]? with
    | none => .inl 1
    | some b => if b.toInt < 128 then .inr (if sg = true ∧ i < 9 ∧ (b &&& ((64 : Int32))).toInt ≠ 0 then ms_ls (ms_l7 v b i) (i + 1) else ms_l7 v b i, at_ + 1) else ms_lb sg bs f (i + 1) (at_ + 1) (ms_l7 v b i)
def ms_lu (bs : List Int32) (at_ : Nat) : Int ⊕ (Int64 × Nat) := ms_lb false bs 10 0 at_ 0
def ms_li (bs : List Int32) (at_ : Nat) : Int ⊕ (Int64 × Nat) := ms_lb true bs 10 0 at_ 0
/-- operands: the first, the second, where they end, a block -/
abbrev ms_O := Int64 × Int64 × Nat × List Int32
def ms_o1 (r : Int ⊕ (Int64 × Nat)) : Int ⊕ ms_O := match r with
  | .inl e => .inl e
  | .inr x => .inr (x.1, 0, x.2, [])
def ms_o2 (r : Int ⊕ (Int64 × Nat)) (q : Nat → Int ⊕ (Int64 × Nat)) : Int ⊕ ms_O := match r with
  | .inl e => .inl e
  | .inr x => match q x.2 with
    | .inl e => .inl e
    | .inr y => .inr (x.1, y.1, y.2, [])
def ms_o3 (bs : List Int32) (r : Int ⊕ (Int64 × Nat)) : Int ⊕ ms_O := match r with
  | .inl e => .inl e
  | .inr x => if x.1.toInt < 0 ∨ (bs.length : Int) - x.2 < x.1.toInt then .inl 1 else .inr (x.1, 0, x.2 + x.1.toInt.toNat, (bs.drop x.2).take x.1.toInt.toNat)
/-- is a code told -/
def ms_kn (c : Int) : Bool := c = 3 || c = 6 || (8 ≤ c && c ≤ 23) || (25 ≤ c && c ≤ 148) || (150 ≤ c && c ≤ 153) || (155 ≤ c && c ≤ 159)
/-- how many bytes a code's number has (10 and more: with sign), or 20 U, 21 S, 22 U S, 23 U U, 24 U and bytes -/
def ms_sh (c : Int) : Nat :=
  if c = 8 ∨ c = 21 ∨ c = 148 then 1
  else if c = 10 ∨ c = 152 then 2
  else if c = 12 ∨ c = 153 then 4
  else if c = 3 ∨ c = 14 then 8
  else if c = 9 then 11
  else if c = 11 ∨ c = 40 ∨ c = 47 then 12
  else if c = 13 then 14
  else if c = 15 then 18
  else if c = 16 ∨ c = 35 ∨ c = 144 ∨ c = 147 then 20
  else if c = 17 ∨ c = 145 ∨ (112 ≤ c ∧ c ≤ 143) then 21
  else if c = 146 then 22
  else if c = 157 then 23
  else if c = 158 then 24
  else 0
def ms_op (c : Int) (bs : List Int32) (p : Nat) : Int ⊕ ms_O :=
  if ms_kn c = false then .inl 2
  else if ms_sh c = 24 then ms_o3 bs (ms_lu bs p)
  else if ms_sh c = 23 then ms_o2 (ms_lu bs p) (ms_lu bs)
  else if ms_sh c = 22 then ms_o2 (ms_lu bs p) (ms_li bs)
  else if ms_sh c = 21 then ms_o1 (ms_li bs p)
  else if ms_sh c = 20 then ms_o1 (ms_lu bs p)
  else if 10 < ms_sh c then ms_o1 (ms_fs bs p (ms_sh c - 10))
  else ms_o1 (ms_fx bs p (ms_sh c))
def ms_wt (c : Int) (a : Int64) : Int :=
  if c = 6 ∨ c = 18 ∨ c = 19 ∨ c = 25 ∨ c = 31 ∨ c = 32 ∨ c = 35 ∨ c = 40 ∨ c = 148 ∨ c = 155 ∨ c = 159 then 1
  else if c = 20 ∨ c = 22 then 2
  else if c = 21 then a.toInt + 1
  else if c = 23 then 3
  else if 26 ≤ c ∧ c ≤ 46 then 2
  else 0
def ms_ps (v : Int64) (S : List Int64) (H : ms_H) : Int ⊕ (List Int64 × ms_H) := if S.length = 128 then .inl 4 else .inr (v :: S, H)
def ms_rd (E : ms_E) (a n : Nat) : Int64 := ms_le ((List.range n).map (fun i => ms_mm E (a + i)))
def ms_wk (c : Int) (s t : Int64) : Int64 := fX12_worked (Int32.ofInt c) s t (fun _ => (0, 0)) (fun _ _ => 0) (fun _ _ => 0) (fun _ _ => none)
/-- an operation that goes on behind itself: the stack and the hold behind it -/
def ms_x (E : ms_E) (c : Int) (a b : Int64) (bl : List Int32) (S : List Int64) (H : ms_H) : Int ⊕ (List Int64 × ms_H) :=
  if 48 ≤ c ∧ c ≤ 79 then ms_ps (Int64.ofInt (c - 48)) S H
  else if 80 ≤ c ∧ c ≤ 111 then .inr (S, (2, Int64.ofInt (c - 80), []))
  else if 112 ≤ c ∧ c ≤ 143 then ms_ps (ms_rg E (c - 112).toNat + a) S H
  else if c = 3 ∨ (8 ≤ c ∧ c ≤ 17) then ms_ps a S H
  else if c = 144 then .inr (S, (2, a, []))
  else if c = 146 then ms_ps (ms_rg E a.toInt.toNat + b) S H
  else if c = 150 then .inr (S, H)
  else if c = 151 then (match ms_ob E with
    | none => .inl 11
    | some v => ms_ps v S H)
  else if c = 156 then (if ms_cr E = -1 then .inl 11 else ms_ps (ms_rg E (ms_cr E).toNat + ms_co E) S H)
  else if c = 158 then .inr (S, (4, a, bl))
  else match S with
    | [] => .inl 3
    | t :: R =>
      if c = 6 then (if t.toInt < 0 ∨ 4088 < t.toInt then .inl 5 else .inr (ms_rd E t.toInt.toNat 8 :: R, H))
      else if c = 148 then (if t.toInt < 0 ∨ 4096 - a.toInt < t.toInt then .inl 5 else .inr (ms_rd E t.toInt.toNat a.toInt.toNat :: R, H))
      else if c = 18 then ms_ps t S H
      else if c = 19 then .inr (R, H)
      else if c = 21 then ms_ps (S.getD a.toInt.toNat 0) S H
      else if c = 25 then .inr ((if t.toInt < 0 then -t else t) :: R, H)
      else if c = 31 then .inr (-t :: R, H)
      else if c = 32 then .inr ((t ^^^ (-1 : Int64)) :: R, H)
      else if c = 35 then .inr ((t + a) :: R, H)
      else if c = 155 then (match ms_tl E with
        | none => .inl 11
        | some v => .inr ((v + t) :: R, H))
      else if c = 159 then .inr (R, (3, t, []))
      else match R with
        | [] => .inl 3
        | s :: Q =>
          if c = 20 then ms_ps s S H
          else if c = 22 then .inr (s :: t :: Q, H)
          else if c = 23 then (match Q with
            | [] => .inl 3
            | r :: Q2 => .inr (s :: r :: t :: Q2, H))
          else if (c = 27 ∨ c = 29) ∧ t.toInt = 0 then .inl 6
          else .inr (ms_wk c s t :: Q, H)
/-- what a piece is of -/
def ms_tg (s : ms_S) : ms_H := if s.2.1.1 = 0 then (match s.1 with
  | [] => ms_0
  | t :: _ => (1, t, [])) else s.2.1
def ms_tb : List ms_P → Int
  | [] => 0
  | p :: r => p.2.1 + ms_tb r
def ms_pc (c : Int) (a b : Int64) (s : ms_S) : Option ms_S :=
  if s.2.2.length = 16 ∨ a.toInt < 0 ∨ (if c = 157 then 4096 else 512) < a.toInt ∨ (c = 157 ∧ (b.toInt < 0 ∨ 4096 < b.toInt)) ∨ 4096 < ms_tb s.2.2 + (if c = 157 then a.toInt else 8 * a.toInt) then none
  else some ([], ms_0, (ms_tg s, (if c = 157 then a.toInt else 8 * a.toInt), (if c = 157 then b.toInt else 0)) :: s.2.2)
/-- what is next: on at a place, a call, FRAME's base and what comes to it -/
abbrev ms_A := (Nat × ms_S) ⊕ ((Nat × Nat) ⊕ (Int64 × Nat))
def ms_jp (bs : List Int32) (p : Nat) (a : Int64) (s : ms_S) : Int ⊕ ms_A := if (p : Int) + a.toInt < 0 ∨ (bs.length : Int) < p + a.toInt then .inl 7 else .inr (.inl (((p : Int) + a.toInt).toNat, s))
def ms_d4 (p : Nat) (s : ms_S) (r : Int ⊕ (List Int64 × ms_H)) : Int ⊕ ms_A := match r with
  | .inl e => .inl e
  | .inr y => .inr (.inl (p, (y.1, y.2, s.2.2)))
def ms_d3 (E : ms_E) (l o : Nat) (bs : List Int32) (c : Int) (x : ms_O) (s : ms_S) : Int ⊕ ms_A :=
  if c = 47 then ms_jp bs x.2.2.1 x.1 s
  else if c = 40 then (match s.1 with
    | [] => .inl 3
    | t :: R => if t.toInt = 0 then .inr (.inl (x.2.2.1, (R, s.2))) else ms_jp bs x.2.2.1 x.1 (R, s.2))
  else if c = 152 ∨ c = 153 then (if 15 < x.1.toInt ∨ o = 8 then .inl 8 else .inr (.inr (.inl (x.1.toInt.toNat, x.2.2.1))))
  else if c = 145 then (if l = 1 ∨ ms_fr E = -1 then .inl 11 else .inr (.inr (.inr (x.1, x.2.2.1))))
  else ms_d4 x.2.2.1 s (ms_x E c x.1 x.2.1 x.2.2.2 s.1 s.2.1)
def ms_d2 (E : ms_E) (l o : Nat) (bs : List Int32) (c : Int) (x : ms_O) (s : ms_S) : Int ⊕ ms_A :=
  if c = 147 ∨ c = 157 then (match ms_pc c x.1 x.2.1 s with
    | none => .inl 13
    | some s2 => .inr (.inl (x.2.2.1, s2)))
  else if (s.1.length : Int) < ms_wt c x.1 then .inl 3
  else ms_d3 E l o bs c x s
def ms_do (E : ms_E) (l o : Nat) (bs : List Int32) (c : Int) (x : ms_O) (s : ms_S) : Int ⊕ ms_A :=
  if s.2.1.1 ≠ 0 ∧ ¬ (c = 147 ∨ c = 157 ∨ c = 150 ∨ c = 47 ∨ c = 152 ∨ c = 153) then .inl 9
  else if (c = 144 ∨ c = 146) ∧ (x.1.toInt < 0 ∨ 31 < x.1.toInt) then .inl 14
  else if c = 148 ∧ (x.1.toInt < 1 ∨ 8 < x.1.toInt) then .inl 10
  else ms_d2 E l o bs c x s
def ms_one (E : ms_E) (l o : Nat) (bs : List Int32) (p : Nat) (s : ms_S) : Int ⊕ ms_A := match bs[p]? with
  | none => .inl 0
  | some b => match ms_op b.toInt bs (p + 1) with
    | .inl e => .inl e
    | .inr x => ms_do E l o bs b.toInt x s
/-- FRAME's base out of a run's end -/
def ms_bs (E : ms_E) (s : ms_S) : Int ⊕ Int64 :=
  if s.2.2 ≠ [] then .inl (if s.2.1.1 ≠ 0 ∨ s.1 ≠ [] then 13 else 11)
  else if s.2.1.1 = 2 then .inr (ms_rg E s.2.1.2.1.toInt.toNat)
  else if s.2.1.1 = 3 then .inr s.2.1.2.1
  else if s.2.1.1 = 0 then (match s.1 with
    | [] => .inl 11
    | t :: _ => .inr t)
  else .inl 11
def ms_run (E : ms_E) : Nat → Nat → Nat → List Int32 → Nat → Nat → ms_S → Option (Int ⊕ (Nat × ms_S))
  | 0, _, _, _, _, _, _ => none
  | g + 1, l, o, bs, p, f, s =>
    if p = bs.length then some (.inr (f, s))
    else if f = 0 then some (.inl 12)
    else match ms_one E l o bs p s with
      | .inl e => some (.inl e)
      | .inr (.inl x) => ms_run E g l o bs x.1 (f - 1) x.2
      | .inr (.inr (.inl x)) => (match ms_run E g l (o + 1) (ms_ex E x.1) 0 (f - 1) s with
        | none => none
        | some (.inl e) => some (.inl e)
        | some (.inr y) => ms_run E g l o bs x.2 y.1 y.2)
      | .inr (.inr (.inr x)) => (match ms_run E g 1 o (ms_ex E (ms_fr E).toNat) 0 (f - 1) ([], ms_0, []) with
        | none => none
        | some (.inl e) => some (.inl e)
        | some (.inr y) => (match ms_bs E y.2 with
          | .inl e => some (.inl e)
          | .inr v => if s.1.length = 128 then some (.inl 4) else ms_run E g l o bs x.2 y.1 ((v + x.1) :: s.1, s.2)))
theorem ms_mono {E : ms_E} : ∀ (g l o : Nat) (bs : List Int32) (p f : Nat) (s : ms_S) (r : Int ⊕ (Nat × ms_S)), ms_run E g l o bs p f s = some r → ms_run E (g + 1) l o bs p f s = some r := by
  intro g
  induction g with
  | zero => intro l o bs p f s r h; cases h
  | succ g ih =>
    intro l o bs p f s r h
    rw [ms_run] at h ⊢
    by_cases h1 : p = bs.length
    · rw [if_pos h1] at h ⊢; exact h
    · rw [if_neg h1] at h ⊢
      by_cases h2 : f = 0
      · rw [if_pos h2] at h ⊢; exact h
      · rw [if_neg h2] at h ⊢
        generalize ms_one E l o bs p s = q at h ⊢
        match q, h with
        | .inl e, h => exact h
        | .inr (.inl x), h => exact ih _ _ _ _ _ _ _ h
        | .inr (.inr (.inl x)), h =>
          dsimp only at h ⊢
          cases hc : ms_run E g l (o + 1) (ms_ex E x.1) 0 (f - 1) s with
          | none => rw [hc] at h; cases h
          | some w =>
            rw [hc] at h
            rw [ih _ _ _ _ _ _ _ hc]
            match w, h with
            | .inl e, h => exact h
            | .inr y, h => exact ih _ _ _ _ _ _ _ h
        | .inr (.inr (.inr x)), h =>
          dsimp only at h ⊢
          cases hc : ms_run E g 1 o (ms_ex E (ms_fr E).toNat) 0 (f - 1) ([], ms_0, []) with
          | none => rw [hc] at h; cases h
          | some w =>
            rw [hc] at h
            rw [ih _ _ _ _ _ _ _ hc]
            match w, h with
            | .inl e, h => exact h
            | .inr y, h =>
              dsimp only at h ⊢
              generalize ms_bs E y.2 = z at h ⊢
              match z, h with
              | .inl e, h => exact h
              | .inr v, h =>
                dsimp only at h ⊢
                by_cases h3 : s.1.length = 128
                · rw [if_pos h3] at h ⊢; exact h
                · rw [if_neg h3] at h ⊢; exact ih _ _ _ _ _ _ _ h
theorem ms_mono2 {E : ms_E} {g g2 l o : Nat} {bs : List Int32} {p f : Nat} {s : ms_S} {r : Int ⊕ (Nat × ms_S)} (h : ms_run E g l o bs p f s = some r) (hg : g ≤ g2) : ms_run E g2 l o bs p f s = some r := by
  induction hg with
  | refl => exact h
  | step _ ih => exact ms_mono _ _ _ _ _ _ _ _ ih
/-- a run's answer -/
def ms_R (E : ms_E) (l o : Nat) (bs : List Int32) (p f : Nat) (s : ms_S) (r : Int ⊕ (Nat × ms_S)) : Prop := ∃ g, ms_run E g l o bs p f s = some r
section MR
variable {E : ms_E} {l o : Nat} {bs : List Int32} {p f : Nat} {s : ms_S} {r : Int ⊕ (Nat × ms_S)}
theorem ms_R_u {r2 : Int ⊕ (Nat × ms_S)} (h : ms_R E l o bs p f s r) (h2 : ms_R E l o bs p f s r2) : r = r2 := by
  obtain ⟨g, h⟩ := h
  obtain ⟨g2, h2⟩ := h2
  have a := ms_mono2 (g2 := g + g2) h (by omega)
  have b := ms_mono2 (g2 := g + g2) h2 (by omega)
  rw [a] at b
  exact Option.some.inj b
theorem ms_R_end (h : p = bs.length) : ms_R E l o bs p f s (.inr (f, s)) := ⟨1, by rw [ms_run, if_pos h]⟩
theorem ms_R_12 (h : p ≠ bs.length) (hf : f = 0) : ms_R E l o bs p f s (.inl 12) := ⟨1, by rw [ms_run, if_neg h, if_pos hf]⟩
theorem ms_R_e {e : Int} (h : p ≠ bs.length) (hf : f ≠ 0) (h1 : ms_one E l o bs p s = .inl e) : ms_R E l o bs p f s (.inl e) := ⟨1, by rw [ms_run, if_neg h, if_neg hf, h1]⟩
theorem ms_R_go {x : Nat × ms_S} (h : p ≠ bs.length) (hf : f ≠ 0) (h1 : ms_one E l o bs p s = .inr (.inl x)) (h2 : ms_R E l o bs x.1 (f - 1) x.2 r) : ms_R E l o bs p f s r := by
  obtain ⟨g, h2⟩ := h2
  exact ⟨g + 1, by rw [ms_run, if_neg h, if_neg hf, h1]; exact h2⟩
theorem ms_R_ce {x : Nat × Nat} {e : Int} (h : p ≠ bs.length) (hf : f ≠ 0) (h1 : ms_one E l o bs p s = .inr (.inr (.inl x))) (h2 : ms_R E l (o + 1) (ms_ex E x.1) 0 (f - 1) s (.inl e)) : ms_R E l o bs p f s (.inl e) := by
  obtain ⟨g, h2⟩ := h2
  exact ⟨g + 1, by rw [ms_run, if_neg h, if_neg hf, h1]; dsimp only; rw [h2]⟩
theorem ms_R_c {x : Nat × Nat} {y : Nat × ms_S} (h : p ≠ bs.length) (hf : f ≠ 0) (h1 : ms_one E l o bs p s = .inr (.inr (.inl x))) (h2 : ms_R E l (o + 1) (ms_ex E x.1) 0 (f - 1) s (.inr y)) (h3 : ms_R E l o bs x.2 y.1 y.2 r) : ms_R E l o bs p f s r := by
  obtain ⟨g, h2⟩ := h2
  obtain ⟨g3, h3⟩ := h3
  exact ⟨g + g3 + 1, by rw [ms_run, if_neg h, if_neg hf, h1]; dsimp only; rw [ms_mono2 (g2 := g + g3) h2 (by omega)]; exact ms_mono2 h3 (by omega)⟩
theorem ms_R_be {x : Int64 × Nat} {e : Int} (h : p ≠ bs.length) (hf : f ≠ 0) (h1 : ms_one E l o bs p s = .inr (.inr (.inr x))) (h2 : ms_R E 1 o (ms_ex E (ms_fr E).toNat) 0 (f - 1) ([], ms_0, []) (.inl e)) : ms_R E l o bs p f s (.inl e) := by
  obtain ⟨g, h2⟩ := h2
  exact ⟨g + 1, by rw [ms_run, if_neg h, if_neg hf, h1]; dsimp only; rw [h2]⟩
theorem ms_R_bf {x : Int64 × Nat} {y : Nat × ms_S} {e : Int} (h : p ≠ bs.length) (hf : f ≠ 0) (h1 : ms_one E l o bs p s = .inr (.inr (.inr x))) (h2 : ms_R E 1 o (ms_ex E (ms_fr E).toNat) 0 (f - 1) ([], ms_0, []) (.inr y)) (h3 : ms_bs E y.2 = .inl e) : ms_R E l o bs p f s (.inl e) := by
  obtain ⟨g, h2⟩ := h2
  exact ⟨g + 1, by rw [ms_run, if_neg h, if_neg hf, h1]; dsimp only; rw [h2]; dsimp only; rw [h3]⟩
theorem ms_R_b4 {x : Int64 × Nat} {y : Nat × ms_S} {v : Int64} (h : p ≠ bs.length) (hf : f ≠ 0) (h1 : ms_one E l o bs p s = .inr (.inr (.inr x))) (h2 : ms_R E 1 o (ms_ex E (ms_fr E).toNat) 0 (f - 1) ([], ms_0, []) (.inr y)) (h3 : ms_bs E y.2 = .inr v) (h4 : s.1.length = 128) : ms_R E l o bs p f s (.inl 4) := by
  obtain ⟨g, h2⟩ := h2
  exact ⟨g + 1, by rw [ms_run, if_neg h, if_neg hf, h1]; dsimp only; rw [h2]; dsimp only; rw [h3]; dsimp only; rw [if_pos h4]⟩
theorem ms_R_b {x : Int64 × Nat} {y : Nat × ms_S} {v : Int64} (h : p ≠ bs.length) (hf : f ≠ 0) (h1 : ms_one E l o bs p s = .inr (.inr (.inr x))) (h2 : ms_R E 1 o (ms_ex E (ms_fr E).toNat) 0 (f - 1) ([], ms_0, []) (.inr y)) (h3 : ms_bs E y.2 = .inr v) (h4 : s.1.length ≠ 128) (h5 : ms_R E l o bs x.2 y.1 ((v + x.1) :: s.1, s.2) r) : ms_R E l o bs p f s r := by
  obtain ⟨g, h2⟩ := h2
  obtain ⟨g3, h5⟩ := h5
  exact ⟨g + g3 + 1, by rw [ms_run, if_neg h, if_neg hf, h1]; dsimp only; rw [ms_mono2 (g2 := g + g3) h2 (by omega)]; dsimp only; rw [h3]; dsimp only; rw [if_neg h4]; exact ms_mono2 h5 (by omega)⟩
end MR
/-- a row of things, the last one first: each at its place -/
def lv {α : Type} (Q : Nat → α → Prop) : List α → Prop
  | [] => True
  | x :: r => Q r.length x ∧ lv Q r
theorem lv_mono {α : Type} {Q Q2 : Nat → α → Prop} : ∀ {L : List α}, (∀ i x, i < L.length → x ∈ L → Q i x → Q2 i x) → lv Q L → lv Q2 L
  | [], _, _ => trivial
  | x :: r, h, hl => ⟨h _ _ (Nat.lt_succ_self _) (List.mem_cons_self) hl.1, lv_mono (fun i y hi hy hq => h i y (Nat.lt_succ_of_lt hi) (List.mem_cons_of_mem _ hy) hq) hl.2⟩
theorem lv_get {α : Type} {Q : Nat → α → Prop} : ∀ {L : List α} {i : Nat} {x : α}, lv Q L → L[i]? = some x → Q (L.length - 1 - i) x
  | [], _, _, _, h => by cases h
  | y :: r, 0, x, hl, h => by
    have e : y = x := Option.some.inj h
    rw [← e]
    exact hl.1
  | y :: r, i + 1, x, hl, h => by
    have h2 : r[i]? = some x := by rw [← h]; rfl
    have h3 := lv_get hl.2 h2
    rw [show (y :: r).length - 1 - (i + 1) = r.length - 1 - i by simp only [List.length_cons]; omega]
    exact h3
