section
/-! THE MACHINE OF RUNS, as a function: what an expression's bytes do to a stack, a hold and pieces. -/
/-- what operations ask for: registers, memory, expressions, FRAME, CFA's register, CFA's number, OBJECT, TLS -/
abbrev ms_E := (Nat → Int64) × (Nat → Int32) × (Nat → List Int32) × Int × Int × Int64 × Option Int64 × Option Int64
def ms_rg (E : ms_E) : Nat → Int64 := E.1
def ms_mm (E : ms_E) : Nat → Int32 := E.2.1
def ms_ex (E : ms_E) : Nat → List Int32 := E.2.2.1
def ms_fr (E : ms_E) : Int := E.2.2.2.1
def ms_cr (E : ms_E) : Int := E.2.2.2.2.1
def ms_co (E : ms_E) : Int64 := E.2.2.2.2.2.1
def ms_ob (E : ms_E) : Option Int64 := E.2.2.2.2.2.2.1
def ms_tl (E : ms_E) : Option Int64 := E.2.2.2.2.2.2.2
/-- a thing: its kind, its number, its block's bytes -/
abbrev ms_H := Int × Int64 × List Int32
/-- a piece: a thing, its bits, its first bit -/
abbrev ms_P := ms_H × Int × Int
/-- a run's state: the stack (t first), the hold, the pieces (the last one first) -/
abbrev ms_S := List Int64 × ms_H × List ms_P
def ms_0 : ms_H := (0, 0, [])
def ms_le : List Int32 → Int64
  | [] => 0
  | b :: r => (ms_le r <<< (((8 : Int32)).toInt64 &&& 63)) ||| b.toInt64
def ms_sx (a : Int32) (v : Int64) : Int64 := (v <<< ((((64 : Int32)) - (((8 : Int32)) * (a))).toInt64 &&& 63)) >>> ((((64 : Int32)) - (((8 : Int32)) * (a))).toInt64 &&& 63)
def ms_fx (bs : List Int32) (at_ n : Nat) : Int ⊕ (Int64 × Nat) := if bs.length < at_ + n then .inl 1 else .inr (ms_le ((bs.drop at_).take n), at_ + n)
def ms_fs (bs : List Int32) (at_ n : Nat) : Int ⊕ (Int64 × Nat) := if bs.length < at_ + n then .inl 1 else .inr (ms_sx (Int32.ofNat n) (ms_le ((bs.drop at_).take n)), at_ + n)
def ms_l7 (v : Int64) (b : Int32) (i : Nat) : Int64 := v ||| (((b &&& ((127 : Int32))).toInt64) <<< ((((7 : Int32)) * (Int32.ofNat i)).toInt64 &&& 63))
def ms_ls (v : Int64) (i : Nat) : Int64 := v ||| (((-1 : Int64)) <<< ((((7 : Int32)) * (Int32.ofNat i)).toInt64 &&& 63))
def ms_lb (sg : Bool) (bs : List Int32) : Nat → Nat → Nat → Int64 → Int ⊕ (Int64 × Nat)
  | 0, _, _, _ => .inl 15
  | f + 1, i, at_, v => match bs[at_]? with
    | none => .inl 1
    | some b => if b.toInt < 128 then .inr (if sg = true ∧ i < 9 ∧ (b &&& ((64 : Int32))).toInt ≠ 0 then ms_ls (ms_l7 v b i) (i + 1) else ms_l7 v b i, at_ + 1) else ms_lb sg bs f (i + 1) (at_ + 1) (ms_l7 v b i)
def ms_lu (bs : List Int32) (at_ : Nat) : Int ⊕ (Int64 × Nat) := ms_lb false bs 10 0 at_ 0
def ms_li (bs : List Int32) (at_ : Nat) : Int ⊕ (Int64 × Nat) := ms_lb true bs 10 0 at_ 0
/-- operands: the first, the second, where they end, a block -/
abbrev ms_O := Int64 × Int64 × Nat × List Int32
def ms_o1 (r : Int ⊕ (Int64 × Nat)) : Int ⊕ ms_O := match r with
  | .inl e => .inl e
  | .inr x => .inr (x.1, 0, x.2, [])
def ms_o2 (r : Int ⊕ (Int64 × Nat)) (q : Nat → Int ⊕ (Int64 × Nat)) : Int ⊕ ms_O := match r with
  | .inl e => .inl e
  | .inr x => match q x.2 with
    | .inl e => .inl e
    | .inr y => .inr (x.1, y.1, y.2, [])
def ms_o3 (bs : List Int32) (r : Int ⊕ (Int64 × Nat)) : Int ⊕ ms_O := match r with
  | .inl e => .inl e
  | .inr x => if x.1.toInt < 0 ∨ (bs.length : Int) - x.2 < x.1.toInt then .inl 1 else .inr (x.1, 0, x.2 + x.1.toInt.toNat, (bs.drop x.2).take x.1.toInt.toNat)
/-- is a code told -/
def ms_kn (c : Int) : Bool := c = 3 || c = 6 || (8 ≤ c && c ≤ 23) || (25 ≤ c && c ≤ 148) || (150 ≤ c && c ≤ 153) || (155 ≤ c && c ≤ 159)
/-- how many bytes a code's number has (10 and more: with sign), or 20 U, 21 S, 22 U S, 23 U U, 24 U and bytes -/
def ms_sh (c : Int) : Nat :=
  if c = 8 ∨ c = 21 ∨ c = 148 then 1
  else if c = 10 ∨ c = 152 then 2
  else if c = 12 ∨ c = 153 then 4
  else if c = 3 ∨ c = 14 then 8
  else if c = 9 then 11
  else if c = 11 ∨ c = 40 ∨ c = 47 then 12
  else if c = 13 then 14
  else if c = 15 then 18
  else if c = 16 ∨ c = 35 ∨ c = 144 ∨ c = 147 then 20
  else if c = 17 ∨ c = 145 ∨ (112 ≤ c ∧ c ≤ 143) then 21
  else if c = 146 then 22
  else if c = 157 then 23
  else if c = 158 then 24
  else 0
def ms_op (c : Int) (bs : List Int32) (p : Nat) : Int ⊕ ms_O :=
  if ms_kn c = false then .inl 2
  else if ms_sh c = 24 then ms_o3 bs (ms_lu bs p)
  else if ms_sh c = 23 then ms_o2 (ms_lu bs p) (ms_lu bs)
  else if ms_sh c = 22 then ms_o2 (ms_lu bs p) (ms_li bs)
  else if ms_sh c = 21 then ms_o1 (ms_li bs p)
  else if ms_sh c = 20 then ms_o1 (ms_lu bs p)
  else if 10 < ms_sh c then ms_o1 (ms_fs bs p (ms_sh c - 10))
  else ms_o1 (ms_fx bs p (ms_sh c))
def ms_wt (c : Int) (a : Int64) : Int :=
  if c = 6 ∨ c = 18 ∨ c = 19 ∨ c = 25 ∨ c = 31 ∨ c = 32 ∨ c = 35 ∨ c = 40 ∨ c = 148 ∨ c = 155 ∨ c = 159 then 1
  else if c = 20 ∨ c = 22 then 2
  else if c = 21 then a.toInt + 1
  else if c = 23 then 3
  else if 26 ≤ c ∧ c ≤ 46 then 2
  else 0
def ms_ps (v : Int64) (S : List Int64) (H : ms_H) : Int ⊕ (List Int64 × ms_H) := if S.length = 128 then .inl 4 else .inr (v :: S, H)
def ms_rd (E : ms_E) (a n : Nat) : Int64 := ms_le ((List.range n).map (fun i => ms_mm E (a + i)))
def ms_wk (c : Int) (s t : Int64) : Int64 := fX12_worked (Int32.ofInt c) s t (fun _ => (0, 0)) (fun _ _ => 0) (fun _ _ => 0) (fun _ _ => none)
/-- an operation that goes on behind itself: the stack and the hold behind it -/
def ms_x (E : ms_E) (c : Int) (a b : Int64) (bl : List Int32) (S : List Int64) (H : ms_H) : Int ⊕ (List Int64 × ms_H) :=
  if 48 ≤ c ∧ c ≤ 79 then ms_ps (Int64.ofInt (c - 48)) S H
  else if 80 ≤ c ∧ c ≤ 111 then .inr (S, (2, Int64.ofInt (c - 80), []))
  else if 112 ≤ c ∧ c ≤ 143 then ms_ps (ms_rg E (c - 112).toNat + a) S H
  else if c = 3 ∨ (8 ≤ c ∧ c ≤ 17) then ms_ps a S H
  else if c = 144 then .inr (S, (2, a, []))
  else if c = 146 then ms_ps (ms_rg E a.toInt.toNat + b) S H
  else if c = 150 then .inr (S, H)
  else if c = 151 then (match ms_ob E with
    | none => .inl 11
    | some v => ms_ps v S H)
  else if c = 156 then (if ms_cr E = -1 then .inl 11 else ms_ps (ms_rg E (ms_cr E).toNat + ms_co E) S H)
  else if c = 158 then .inr (S, (4, a, bl))
  else match S with
    | [] => .inl 3
    | t :: R =>
      if c = 6 then (if t.toInt < 0 ∨ 4088 < t.toInt then .inl 5 else .inr (ms_rd E t.toInt.toNat 8 :: R, H))
      else if c = 148 then (if t.toInt < 0 ∨ 4096 - a.toInt < t.toInt then .inl 5 else .inr (ms_rd E t.toInt.toNat a.toInt.toNat :: R, H))
      else if c = 18 then ms_ps t S H
      else if c = 19 then .inr (R, H)
      else if c = 21 then ms_ps (S.getD a.toInt.toNat 0) S H
      else if c = 25 then .inr ((if t.toInt < 0 then -t else t) :: R, H)
      else if c = 31 then .inr (-t :: R, H)
      else if c = 32 then .inr ((t ^^^ (-1 : Int64)) :: R, H)
      else if c = 35 then .inr ((t + a) :: R, H)
      else if c = 155 then (match ms_tl E with
        | none => .inl 11
        | some v => .inr ((v + t) :: R, H))
      else if c = 159 then .inr (R, (3, t, []))
      else match R with
        | [] => .inl 3
        | s :: Q =>
          if c = 20 then ms_ps s S H
          else if c = 22 then .inr (s :: t :: Q, H)
          else if c = 23 then (match Q with
            | [] => .inl 3
            | r :: Q2 => .inr (s :: r :: t :: Q2, H))
          else if (c = 27 ∨ c = 29) ∧ t.toInt = 0 then .inl 6
          else .inr (ms_wk c s t :: Q, H)
/-- what a piece is of -/
def ms_tg (s : ms_S) : ms_H := if s.2.1.1 = 0 then (match s.1 with
  | [] => ms_0
  | t :: _ => (1, t, [])) else s.2.1
def ms_tb : List ms_P → Int
  | [] => 0
  | p :: r => p.2.1 + ms_tb r
def ms_pc (c : Int) (a b : Int64) (s : ms_S) : Option ms_S :=
  if s.2.2.length = 16 ∨ a.toInt < 0 ∨ (if c = 157 then 4096 else 512) < a.toInt ∨ (c = 157 ∧ (b.toInt < 0 ∨ 4096 < b.toInt)) ∨ 4096 < ms_tb s.2.2 + (if c = 157 then a.toInt else 8 * a.toInt) then none
  else some ([], ms_0, (ms_tg s, (if c = 157 then a.toInt else 8 * a.toInt), (if c = 157 then b.toInt else 0)) :: s.2.2)
/-- what is next: on at a place, a call, FRAME's base and what comes to it -/
abbrev ms_A := (Nat × ms_S) ⊕ ((Nat × Nat) ⊕ (Int64 × Nat))
def ms_jp (bs : List Int32) (p : Nat) (a : Int64) (s : ms_S) : Int ⊕ ms_A := if (p : Int) + a.toInt < 0 ∨ (bs.length : Int) < p + a.toInt then .inl 7 else .inr (.inl (((p : Int) + a.toInt).toNat, s))
def ms_d4 (p : Nat) (s : ms_S) (r : Int ⊕ (List Int64 × ms_H)) : Int ⊕ ms_A := match r with
  | .inl e => .inl e
  | .inr y => .inr (.inl (p, (y.1, y.2, s.2.2)))
def ms_d3 (E : ms_E) (l o : Nat) (bs : List Int32) (c : Int) (x : ms_O) (s : ms_S) : Int ⊕ ms_A :=
  if c = 47 then ms_jp bs x.2.2.1 x.1 s
  else if c = 40 then (match s.1 with
    | [] => .inl 3
    | t :: R => if t.toInt = 0 then .inr (.inl (x.2.2.1, (R, s.2))) else ms_jp bs x.2.2.1 x.1 (R, s.2))
  else if c = 152 ∨ c = 153 then (if 15 < x.1.toInt ∨ o = 8 then .inl 8 else .inr (.inr (.inl (x.1.toInt.toNat, x.2.2.1))))
  else if c = 145 then (if l = 1 ∨ ms_fr E = -1 then .inl 11 else .inr (.inr (.inr (x.1, x.2.2.1))))
  else ms_d4 x.2.2.1 s (ms_x E c x.1 x.2.1 x.2.2.2 s.1 s.2.1)
def ms_d2 (E : ms_E) (l o : Nat) (bs : List Int32) (c : Int) (x : ms_O) (s : ms_S) : Int ⊕ ms_A :=
  if c = 147 ∨ c = 157 then (match ms_pc c x.1 x.2.1 s with
    | none => .inl 13
    | some s2 => .inr (.inl (x.2.2.1, s2)))
  else if (s.1.length : Int) < ms_wt c x.1 then .inl 3
  else ms_d3 E l o bs c x s
def ms_do (E : ms_E) (l o : Nat) (bs : List Int32) (c : Int) (x : ms_O) (s : ms_S) : Int ⊕ ms_A :=
  if s.2.1.1 ≠ 0 ∧ ¬ (c = 147 ∨ c = 157 ∨ c = 150 ∨ c = 47 ∨ c = 152 ∨ c = 153) then .inl 9
  else if (c = 144 ∨ c = 146) ∧ (x.1.toInt < 0 ∨ 31 < x.1.toInt) then .inl 14
  else if c = 148 ∧ (x.1.toInt < 1 ∨ 8 < x.1.toInt) then .inl 10
  else ms_d2 E l o bs c x s
def ms_one (E : ms_E) (l o : Nat) (bs : List Int32) (p : Nat) (s : ms_S) : Int ⊕ ms_A := match bs[p]? with
  | none => .inl 0
  | some b => match ms_op b.toInt bs (p + 1) with
    | .inl e => .inl e
    | .inr x => ms_do E l o bs b.toInt x s
/-- FRAME's base out of a run's end -/
def ms_bs (E : ms_E) (s : ms_S) : Int ⊕ Int64 :=
  if s.2.2 ≠ [] then .inl (if s.2.1.1 ≠ 0 ∨ s.1 ≠ [] then 13 else 11)
  else if s.2.1.1 = 2 then .inr (ms_rg E s.2.1.2.1.toInt.toNat)
  else if s.2.1.1 = 3 then .inr s.2.1.2.1
  else if s.2.1.1 = 0 then (match s.1 with
    | [] => .inl 11
    | t :: _ => .inr t)
  else .inl 11
def ms_run (E : ms_E) : Nat → Nat → Nat → List Int32 → Nat → Nat → ms_S → Option (Int ⊕ (Nat × ms_S))
  | 0, _, _, _, _, _, _ => none
  | g + 1, l, o, bs, p, f, s =>
    if p = bs.length then some (.inr (f, s))
    else if f = 0 then some (.inl 12)
    else match ms_one E l o bs p s with
      | .inl e => some (.inl e)
      | .inr (.inl x) => ms_run E g l o bs x.1 (f - 1) x.2
      | .inr (.inr (.inl x)) => (match ms_run E g l (o + 1) (ms_ex E x.1) 0 (f - 1) s with
        | none => none
        | some (.inl e) => some (.inl e)
        | some (.inr y) => ms_run E g l o bs x.2 y.1 y.2)
      | .inr (.inr (.inr x)) => (match ms_run E g 1 o (ms_ex E (ms_fr E).toNat) 0 (f - 1) ([], ms_0, []) with
        | none => none
        | some (.inl e) => some (.inl e)
        | some (.inr y) => (match ms_bs E y.2 with
          | .inl e => some (.inl e)
          | .inr v => if s.1.length = 128 then some (.inl 4) else ms_run E g l o bs x.2 y.1 ((v + x.1) :: s.1, s.2)))
theorem ms_mono {E : ms_E} : ∀ (g l o : Nat) (bs : List Int32) (p f : Nat) (s : ms_S) (r : Int ⊕ (Nat × ms_S)), ms_run E g l o bs p f s = some r → ms_run E (g + 1) l o bs p f s = some r := by
  intro g
  induction g with
  | zero => intro l o bs p f s r h; cases h
  | succ g ih =>
    intro l o bs p f s r h
    rw [ms_run] at h ⊢
    by_cases h1 : p = bs.length
    · rw [if_pos h1] at h ⊢; exact h
    · rw [if_neg h1] at h ⊢
      by_cases h2 : f = 0
      · rw [if_pos h2] at h ⊢; exact h
      · rw [if_neg h2] at h ⊢
        generalize ms_one E l o bs p s = q at h ⊢
        match q, h with
        | .inl e, h => exact h
        | .inr (.inl x), h => exact ih _ _ _ _ _ _ _ h
        | .inr (.inr (.inl x)), h =>
          dsimp only at h ⊢
          cases hc : ms_run E g l (o + 1) (ms_ex E x.1) 0 (f - 1) s with
          | none => rw [hc] at h; cases h
          | some w =>
            rw [hc] at h
            rw [ih _ _ _ _ _ _ _ hc]
            match w, h with
            | .inl e, h => exact h
            | .inr y, h => exact ih _ _ _ _ _ _ _ h
        | .inr (.inr (.inr x)), h =>
          dsimp only at h ⊢
          cases hc : ms_run E g 1 o (ms_ex E (ms_fr E).toNat) 0 (f - 1) ([], ms_0, []) with
          | none => rw [hc] at h; cases h
          | some w =>
            rw [hc] at h
            rw [ih _ _ _ _ _ _ _ hc]
            match w, h with
            | .inl e, h => exact h
            | .inr y, h =>
              dsimp only at h ⊢
              generalize ms_bs E y.2 = z at h ⊢
              match z, h with
              | .inl e, h => exact h
              | .inr v, h =>
                dsimp only at h ⊢
                by_cases h3 : s.1.length = 128
                · rw [if_pos h3] at h ⊢; exact h
                · rw [if_neg h3] at h ⊢; exact ih _ _ _ _ _ _ _ h
theorem ms_mono2 {E : ms_E} {g g2 l o : Nat} {bs : List Int32} {p f : Nat} {s : ms_S} {r : Int ⊕ (Nat × ms_S)} (h : ms_run E g l o bs p f s = some r) (hg : g ≤ g2) : ms_run E g2 l o bs p f s = some r := by
  induction hg with
  | refl => exact h
  | step _ ih => exact ms_mono _ _ _ _ _ _ _ _ ih
/-- a run's answer -/
def ms_R (E : ms_E) (l o : Nat) (bs : List Int32) (p f : Nat) (s : ms_S) (r : Int ⊕ (Nat × ms_S)) : Prop := ∃ g, ms_run E g l o bs p f s = some r
section MR
variable {E : ms_E} {l o : Nat} {bs : List Int32} {p f : Nat} {s : ms_S} {r : Int ⊕ (Nat × ms_S)}
theorem ms_R_u {r2 : Int ⊕ (Nat × ms_S)} (h : ms_R E l o bs p f s r) (h2 : ms_R E l o bs p f s r2) : r = r2 := by
  obtain ⟨g, h⟩ := h
  obtain ⟨g2, h2⟩ := h2
  have a := ms_mono2 (g2 := g + g2) h (by omega)
  have b := ms_mono2 (g2 := g + g2) h2 (by omega)
  rw [a] at b
  exact Option.some.inj b
theorem ms_R_end (h : p = bs.length) : ms_R E l o bs p f s (.inr (f, s)) := ⟨1, by rw [ms_run, if_pos h]⟩
theorem ms_R_12 (h : p ≠ bs.length) (hf : f = 0) : ms_R E l o bs p f s (.inl 12) := ⟨1, by rw [ms_run, if_neg h, if_pos hf]⟩
theorem ms_R_e {e : Int} (h : p ≠ bs.length) (hf : f ≠ 0) (h1 : ms_one E l o bs p s = .inl e) : ms_R E l o bs p f s (.inl e) := ⟨1, by rw [ms_run, if_neg h, if_neg hf, h1]⟩
theorem ms_R_go {x : Nat × ms_S} (h : p ≠ bs.length) (hf : f ≠ 0) (h1 : ms_one E l o bs p s = .inr (.inl x)) (h2 : ms_R E l o bs x.1 (f - 1) x.2 r) : ms_R E l o bs p f s r := by
  obtain ⟨g, h2⟩ := h2
  exact ⟨g + 1, by rw [ms_run, if_neg h, if_neg hf, h1]; exact h2⟩
theorem ms_R_ce {x : Nat × Nat} {e : Int} (h : p ≠ bs.length) (hf : f ≠ 0) (h1 : ms_one E l o bs p s = .inr (.inr (.inl x))) (h2 : ms_R E l (o + 1) (ms_ex E x.1) 0 (f - 1) s (.inl e)) : ms_R E l o bs p f s (.inl e) := by
  obtain ⟨g, h2⟩ := h2
  exact ⟨g + 1, by rw [ms_run, if_neg h, if_neg hf, h1]; dsimp only; rw [h2]⟩
theorem ms_R_c {x : Nat × Nat} {y : Nat × ms_S} (h : p ≠ bs.length) (hf : f ≠ 0) (h1 : ms_one E l o bs p s = .inr (.inr (.inl x))) (h2 : ms_R E l (o + 1) (ms_ex E x.1) 0 (f - 1) s (.inr y)) (h3 : ms_R E l o bs x.2 y.1 y.2 r) : ms_R E l o bs p f s r := by
  obtain ⟨g, h2⟩ := h2
  obtain ⟨g3, h3⟩ := h3
  exact ⟨g + g3 + 1, by rw [ms_run, if_neg h, if_neg hf, h1]; dsimp only; rw [ms_mono2 (g2 := g + g3) h2 (by omega)]; exact ms_mono2 h3 (by omega)⟩
theorem ms_R_be {x : Int64 × Nat} {e : Int} (h : p ≠ bs.length) (hf : f ≠ 0) (h1 : ms_one E l o bs p s = .inr (.inr (.inr x))) (h2 : ms_R E 1 o (ms_ex E (ms_fr E).toNat) 0 (f - 1) ([], ms_0, []) (.inl e)) : ms_R E l o bs p f s (.inl e) := by
  obtain ⟨g, h2⟩ := h2
  exact ⟨g + 1, by rw [ms_run, if_neg h, if_neg hf, h1]; dsimp only; rw [h2]⟩
theorem ms_R_bf {x : Int64 × Nat} {y : Nat × ms_S} {e : Int} (h : p ≠ bs.length) (hf : f ≠ 0) (h1 : ms_one E l o bs p s = .inr (.inr (.inr x))) (h2 : ms_R E 1 o (ms_ex E (ms_fr E).toNat) 0 (f - 1) ([], ms_0, []) (.inr y)) (h3 : ms_bs E y.2 = .inl e) : ms_R E l o bs p f s (.inl e) := by
  obtain ⟨g, h2⟩ := h2
  exact ⟨g + 1, by rw [ms_run, if_neg h, if_neg hf, h1]; dsimp only; rw [h2]; dsimp only; rw [h3]⟩
theorem ms_R_b4 {x : Int64 × Nat} {y : Nat × ms_S} {v : Int64} (h : p ≠ bs.length) (hf : f ≠ 0) (h1 : ms_one E l o bs p s = .inr (.inr (.inr x))) (h2 : ms_R E 1 o (ms_ex E (ms_fr E).toNat) 0 (f - 1) ([], ms_0, []) (.inr y)) (h3 : ms_bs E y.2 = .inr v) (h4 : s.1.length = 128) : ms_R E l o bs p f s (.inl 4) := by
  obtain ⟨g, h2⟩ := h2
  exact ⟨g + 1, by rw [ms_run, if_neg h, if_neg hf, h1]; dsimp only; rw [h2]; dsimp only; rw [h3]; dsimp only; rw [if_pos h4]⟩
theorem ms_R_b {x : Int64 × Nat} {y : Nat × ms_S} {v : Int64} (h : p ≠ bs.length) (hf : f ≠ 0) (h1 : ms_one E l o bs p s = .inr (.inr (.inr x))) (h2 : ms_R E 1 o (ms_ex E (ms_fr E).toNat) 0 (f - 1) ([], ms_0, []) (.inr y)) (h3 : ms_bs E y.2 = .inr v) (h4 : s.1.length ≠ 128) (h5 : ms_R E l o bs x.2 y.1 ((v + x.1) :: s.1, s.2) r) : ms_R E l o bs p f s r := by
  obtain ⟨g, h2⟩ := h2
  obtain ⟨g3, h5⟩ := h5
  exact ⟨g + g3 + 1, by rw [ms_run, if_neg h, if_neg hf, h1]; dsimp only; rw [ms_mono2 (g2 := g + g3) h2 (by omega)]; dsimp only; rw [h3]; dsimp only; rw [if_neg h4]; exact ms_mono2 h5 (by omega)⟩
end MR
/-- a row of things, the last one first: each at its place -/
def lv {α : Type} (Q : Nat → α → Prop) : List α → Prop
  | [] => True
  | x :: r => Q r.length x ∧ lv Q r
theorem lv_mono {α : Type} {Q Q2 : Nat → α → Prop} : ∀ {L : List α}, (∀ i x, i < L.length → x ∈ L → Q i x → Q2 i x) → lv Q L → lv Q2 L
  | [], _, _ => trivial
  | x :: r, h, hl => ⟨h _ _ (Nat.lt_succ_self _) (List.mem_cons_self) hl.1, lv_mono (fun i y hi hy hq => h i y (Nat.lt_succ_of_lt hi) (List.mem_cons_of_mem _ hy) hq) hl.2⟩
theorem lv_get {α : Type} {Q : Nat → α → Prop} : ∀ {L : List α} {i : Nat} {x : α}, lv Q L → L[i]? = some x → Q (L.length - 1 - i) x
  | [], _, _, _, h => by cases h
  | y :: r, 0, x, hl, h => by
    have e : y = x := Option.some.inj h
    rw [← e]
    exact hl.1
  | y :: r, i + 1, x, hl, h => by
    have h2 : r[i]? = some x := by rw [← h]; rfl
    have h3 := lv_get hl.2 h2
    rw [show (y :: r).length - 1 - (i + 1) = r.length - 1 - i by simp only [List.length_cons]; omega]
    exact h3
end
section
/-! NUMBERS of bytes, from both ends. -/
theorem l_shl (y : Int64) : ∀ k : Nat, k < 8 → (y <<< (Int64.ofNat (8 * k))).toBitVec = y.toBitVec <<< (8 * k)
  | 0, _ => by rw [Int64.toBitVec_shiftLeft]; rfl
  | 1, _ => by rw [Int64.toBitVec_shiftLeft]; rfl
  | 2, _ => by rw [Int64.toBitVec_shiftLeft]; rfl
  | 3, _ => by rw [Int64.toBitVec_shiftLeft]; rfl
  | 4, _ => by rw [Int64.toBitVec_shiftLeft]; rfl
  | 5, _ => by rw [Int64.toBitVec_shiftLeft]; rfl
  | 6, _ => by rw [Int64.toBitVec_shiftLeft]; rfl
  | 7, _ => by rw [Int64.toBitVec_shiftLeft]; rfl
  | k + 8, h => by omega
theorem l_k8 : ∀ k : Nat, k < 8 → ((((8 : Int32)) * Int32.ofNat k).toInt64 &&& 63) = Int64.ofNat (8 * k) := by decide
theorem ms_le_c (b : Int32) (r : List Int32) : (ms_le (b :: r)).toBitVec = ((ms_le r).toBitVec <<< 8) ||| b.toInt64.toBitVec := by
  show ((ms_le r <<< (((8 : Int32)).toInt64 &&& 63)) ||| b.toInt64).toBitVec = _
  rw [Int64.toBitVec_or, show (((8 : Int32)).toInt64 &&& 63) = Int64.ofNat (8 * 1) from by decide, l_shl _ 1 (by decide)]
theorem ms_le_b : ∀ (l : List Int32) (b : Int32), l.length ≤ 7 → (ms_le (l ++ [b])).toBitVec = (ms_le l).toBitVec ||| (b.toInt64.toBitVec <<< (8 * l.length))
  | [], b, _ => by
    show (ms_le (b :: [])).toBitVec = _
    rw [ms_le_c]
    show ((0 : Int64).toBitVec <<< 8) ||| b.toInt64.toBitVec = (0 : Int64).toBitVec ||| (b.toInt64.toBitVec <<< 0)
    simp
  | x :: r, b, h => by
    have ih := ms_le_b r b (by simp only [List.length_cons] at h; omega)
    show (ms_le (x :: (r ++ [b]))).toBitVec = _
    rw [ms_le_c, ih, ms_le_c, BitVec.shiftLeft_or_distrib, ← BitVec.shiftLeft_add]
    rw [show 8 * r.length + 8 = 8 * (x :: r).length by simp only [List.length_cons]; omega]
    rw [BitVec.or_assoc, BitVec.or_assoc, BitVec.or_comm (b.toInt64.toBitVec <<< _)]
theorem ms_le_app {l : List Int32} {b : Int32} (h : l.length ≤ 7) : ms_le (l ++ [b]) = ms_le l ||| (b.toInt64 <<< ((((8 : Int32)) * Int32.ofNat l.length).toInt64 &&& 63)) := by
  apply Int64.toBitVec_inj.mp
  rw [ms_le_b l b h, Int64.toBitVec_or, l_k8 _ (by omega), l_shl _ _ (by omega)]
/-- bytes of an int[] -/
def bk0 (FI : Nat → Nat → Int32) (SH : Nat → Nat × Nat) (r A : Nat) (L : List Int32) : Prop := 0 ≤ (SH r).1 ∧ A + L.length ≤ (SH r).2 ∧ (SH r).2 ≤ 2000000000 ∧ ∀ i b, L[i]? = some b → FI r (A + i) = b ∧ 0 ≤ b.toInt ∧ b.toInt ≤ 255
/-- a row of bytes that is never written again: the reference's, or one of the class's own -/
def rw0 (SH : Nat → Nat × Nat) (r : Nat) : Prop := 0 ≤ (SH r).1 ∧ (r = 124 ∨ (27 ≤ r ∧ r ≤ 47) ∨ 176 ≤ r)
def bk (FI : Nat → Nat → Int32) (SH : Nat → Nat × Nat) (r A : Nat) (L : List Int32) : Prop := rw0 SH r ∧ A + L.length ≤ (SH r).2 ∧ (SH r).2 ≤ 2000000000 ∧ ∀ i b, L[i]? = some b → FI r (A + i) = b ∧ 0 ≤ b.toInt ∧ b.toInt ≤ 255
theorem bk_0 {FI : Nat → Nat → Int32} {SH : Nat → Nat × Nat} {r A : Nat} {L : List Int32} (h : bk FI SH r A L) : bk0 FI SH r A L := ⟨h.1.1, h.2⟩
theorem bk_fr {FI F2 : Nat → Nat → Int32} {SH : Nat → Nat × Nat} {r A : Nat} {L : List Int32} (h : bk FI SH r A L) (e : F2 r = FI r) : bk F2 SH r A L := by
  unfold bk
  rw [e]
  exact h
theorem ms_tk {bs : List Int32} {p i k : Nat} {b : Int32} (h : bs[p + i]? = some b) (hi : i < k) : (bs.drop p).take (i + 1) = (bs.drop p).take i ++ [b] := by
  have h2 : (bs.drop p)[i]? = some b := by rw [List.getElem?_drop]; exact h
  rw [List.take_add_one, h2]
  rfl
theorem ms_dp {bs : List Int32} {p i n : Nat} {b : Int32} (h : bs[p + i]? = some b) (hi : i < n) : ((bs.drop p).take n).drop i = b :: ((bs.drop p).take n).drop (i + 1) := by
  have h2 : ((bs.drop p).take n)[i]? = some b := by rw [List.getElem?_take_of_lt hi, List.getElem?_drop]; exact h
  obtain ⟨hl, e⟩ := List.getElem?_eq_some_iff.mp h2
  rw [List.drop_eq_getElem_cons hl, e]
theorem ms_ln {bs : List Int32} {p n : Nat} (h : p + n ≤ bs.length) : ((bs.drop p).take n).length = n := by
  rw [List.length_take, List.length_drop]
  omega
theorem ms_ex_i {bs : List Int32} {i : Nat} (h : i < bs.length) : ∃ b, bs[i]? = some b := ⟨_, List.getElem?_eq_getElem h⟩
section CN
variable {n sl : Nat} {SH : Nat → Nat × Nat} {FI : Nat → Nat → Int32} {FL : Nat → Nat → Int64} {FR : Nat → Nat → Option Nat}
/-- the class's number, from the lowest byte on -/
theorem cn_5 {r A p k : Nat} {bs : List Int32} {a2 a3 : Int32} (hb : bk0 FI SH r A bs) (h2 : a2.toInt = ((A + p : Nat) : Int)) (h3 : a3.toInt = k) (hk : k ≤ 8) (hp : p + k ≤ bs.length) : ∀ (g i : Nat) (l3l : Int64) (l5i : Int32) (v : Int64) (s : hS), l5i.toInt = i → i ≤ k → l3l = ms_le ((bs.drop p).take i) → GX11_number_5 (some r) a2 a3 g l3l l5i n sl SH FI FL FR v s → v = ms_le ((bs.drop p).take k) ∧ s = (n, sl, SH, FI, FL, FR) := by
  intro g
  induction g with
  | zero => intro i l3l l5i v s _ _ _ h; exact h.elim
  | succ g ih =>
    intro i l3l l5i v s hi hik hl h
    obtain ⟨b1, b2, b3, b4⟩ := hb
    rcases h with ⟨h0, h⟩ | ⟨h0, e1, e2⟩
    · rcases h with ⟨-, h⟩ | ⟨h8, -, -⟩
      · have hx : (a2 + l5i).toInt = ((A + (p + i) : Nat) : Int) := by rw [i_add h2 hi (by omega) (by omega)]; omega
        rcases h with ⟨hn, -⟩ | ⟨-, h⟩
        · exfalso; omega
        · obtain ⟨q, eq, h⟩ := h
          cases eq
          rw [i_lit (by omega)] at h
          rcases h with ⟨-, h⟩ | ⟨hn, -⟩
          · obtain ⟨q2, eq2, -, h⟩ := h
            cases eq2
            have hx2 : (a2 + l5i).toInt.toNat = A + (p + i) := by omega
            rw [hx2] at h
            obtain ⟨b, hb0⟩ := ms_ex_i (bs := bs) (i := p + i) (by omega)
            have f1 := (b4 (p + i) b hb0).1
            rw [f1] at h
            refine ih (i + 1) _ _ v s (by rw [i_add hi (by decide : ((1 : Int32)).toInt = 1) (by omega) (by omega)]; omega) (by omega) ?_ h
            have el : ((bs.drop p).take i).length = i := ms_ln (by omega)
            rw [ms_tk hb0 (Nat.lt_succ_self i), ms_le_app (by omega), el, hl, show l5i = Int32.ofNat i from i_eqv (by rw [hi, i_lit (by omega)])]
          · exfalso; omega
      · exfalso
        rw [show ((8 : Int32)).toInt = 8 by decide] at h8
        omega
    · have e : i = k := by omega
      subst e
      exact ⟨e1.trans hl, e2⟩
theorem cn_num {r A p k : Nat} {bs : List Int32} {a2 a3 : Int32} {v : Int64} {s : hS} (hb : bk0 FI SH r A bs) (h2 : a2.toInt = ((A + p : Nat) : Int)) (h3 : a3.toInt = k) (hk : k ≤ 8) (hp : p + k ≤ bs.length) (h : RX11_number (some r) a2 a3 n sl SH FI FL FR v s) : v = ms_le ((bs.drop p).take k) ∧ s = (n, sl, SH, FI, FL, FR) := by
  obtain ⟨g, h⟩ := h
  exact cn_5 hb h2 h3 hk hp g 0 _ _ v s (by decide) (by omega) rfl h
/-- the reference's, from the highest byte on -/
theorem rn_30 {A p k : Nat} {bs : List Int32} {a1 a2 : Int32} (hb : bk FI SH 124 A bs) (h2 : a1.toInt = ((A + p : Nat) : Int)) (hk : k ≤ 8) (hp : p + k ≤ bs.length) : ∀ (g i : Nat) (l3l : Int64) (l5i : Int32) (v : Int64) (s : hS), l5i.toInt = (i : Int) - 1 → i ≤ k → l3l = ms_le (((bs.drop p).take k).drop i) → GX12_number_7 a1 a2 g l3l l5i n sl SH FI FL FR v s → v = ms_le ((bs.drop p).take k) ∧ s = (n, sl, SH, FI, FL, FR) := by
  intro g
  induction g with
  | zero => intro i l3l l5i v s _ _ _ h; exact h.elim
  | succ g ih =>
    intro i l3l l5i v s hi hik hl h
    obtain ⟨b1, b2, b3, b4⟩ := hb
    rcases h with ⟨h0, e1, e2⟩ | ⟨h0, -, h⟩
    · have e : i = 0 := by omega
      subst e
      exact ⟨e1.trans hl, e2⟩
    · cases i with
      | zero => exfalso; omega
      | succ i =>
        have hx : (a1 + l5i).toInt = ((A + (p + i) : Nat) : Int) := by rw [i_add h2 hi (by omega) (by omega)]; omega
        have hx2 : (a1 + l5i).toInt.toNat = A + (p + i) := by omega
        rw [hx2] at h
        obtain ⟨b, hb0⟩ := ms_ex_i (bs := bs) (i := p + i) (by omega)
        have f1 := (b4 (p + i) b hb0).1
        rw [f1] at h
        refine ih i _ _ v s (by rw [i_add hi (by decide : ((-1 : Int32)).toInt = -1) (by omega) (by omega)]; omega) (by omega) ?_ h
        rw [hl, ms_dp hb0 (by omega)]
        rfl
theorem rn_num {A p k : Nat} {bs : List Int32} {a1 a2 : Int32} {v : Int64} {s : hS} (hb : bk FI SH 124 A bs) (h1 : a1.toInt = ((A + p : Nat) : Int)) (h2 : a2.toInt = k) (hk : k ≤ 8) (hp : p + k ≤ bs.length) (h : RX12_number a1 a2 n sl SH FI FL FR v s) : v = ms_le ((bs.drop p).take k) ∧ s = (n, sl, SH, FI, FL, FR) := by
  obtain ⟨g, h⟩ := h
  refine rn_30 hb h1 hk hp g k _ _ v s ?_ (Nat.le_refl _) ?_ h
  · rw [i_sub h2 (by decide : ((1 : Int32)).toInt = 1) (by omega) (by omega)]
  · rw [List.drop_of_length_le (by rw [ms_ln hp]; exact Nat.le_refl _)]
    rfl
end CN
end
section
/-! THE REFERENCE DECODES. -/
theorem P_p {ρ : Type} {p : Prop} {A B : ρ → hS → Prop} {x : ρ} {s : hS} (h : P_if p A B x s) (hp : p) : A x s := by
  rcases h with ⟨-, h⟩ | ⟨hn, -⟩
  · exact h
  · exact absurd hp hn
theorem P_n {ρ : Type} {p : Prop} {A B : ρ → hS → Prop} {x : ρ} {s : hS} (h : P_if p A B x s) (hp : ¬ p) : B x s := by
  rcases h with ⟨hn, -⟩ | ⟨-, h⟩
  · exact absurd hn hp
  · exact h
/-- only these fields of the reference have changed -/
def fk {α : Type} (K : List Nat) (F F2 : Nat → Nat → α) : Prop := ∀ c k, ¬ (c = 121 ∧ k ∈ K) → F2 c k = F c k
theorem fk_rf {α : Type} {K : List Nat} {F : Nat → Nat → α} : fk K F F := fun _ _ _ => rfl
theorem fk_up {α : Type} {K : List Nat} {F F2 : Nat → Nat → α} {k : Nat} {x : α} (h : fk K F F2) (hk : k ∈ K) : fk K F (h_up F2 121 k x) := fun c j hn => by
  rw [h_up_x (fun e => hn ⟨e.1, by rw [e.2]; exact hk⟩)]
  exact h c j hn
theorem fk_tr {α : Type} {K : List Nat} {F F2 F3 : Nat → Nat → α} (h : fk K F F2) (h2 : fk K F2 F3) : fk K F F3 := fun c k hn => (h2 c k hn).trans (h c k hn)
theorem fk_row {α : Type} {K : List Nat} {F F2 : Nat → Nat → α} {c : Nat} (h : fk K F F2) (hc : c ≠ 121) : F2 c = F c := funext fun k => h c k (fun e => hc e.1)
theorem fk_at {α : Type} {K : List Nat} {F F2 : Nat → Nat → α} {k : Nat} (h : fk K F F2) (hk : k ∉ K) : F2 121 k = F 121 k := h 121 k (fun e => hk e.2)
theorem i_of {x : Int32} {k : Nat} (h : x.toInt = k) (hk : k < 2147483648) : x = Int32.ofNat k := i_eqv (by rw [h, i_lit hk])
section RD
variable {n sl : Nat} {SH : Nat → Nat × Nat} {FL : Nat → Nat → Int64} {FR : Nat → Nat → Option Nat} {A : Nat} {bs : List Int32}
theorem rf_34 {FI : Nat → Nat → Int32} {p k : Nat} {a1 a2 a3 : Int32} (hb : bk FI SH 124 A bs) (h1 : a1.toInt = k) (hk : k ≤ 8) (hn : (FI 121 37).toInt = ((A + p : Nat) : Int)) (hp : p + k ≤ bs.length) : ∀ (g i : Nat) (l4l : Int64) (l6i : Int32) (v : Int64) (s : hS), l6i.toInt = (i : Int) - 1 → i ≤ k → l4l = ms_le (((bs.drop p).take k).drop i) → GX12_fixed_34 a1 a2 a3 g l4l l6i n sl SH FI FL FR v s → s = (n, sl, SH, h_up FI 121 37 (FI 121 37 + a1), FL, FR) ∧ v = (if a2.toInt = 0 ∨ k = 8 then ms_le ((bs.drop p).take k) else ms_sx a1 (ms_le ((bs.drop p).take k))) := by
  intro g
  induction g with
  | zero => intro i l4l l6i v s _ _ _ h; exact h.elim
  | succ g ih =>
    intro i l4l l6i v s hi hik hl h
    obtain ⟨b1, b2, b3, b4⟩ := hb
    rcases h with ⟨h0, h⟩ | ⟨h0, -, h⟩
    · have e : i = 0 := by omega
      subst e
      have hl2 : l4l = ms_le ((bs.drop p).take k) := hl
      rw [hl2] at h
      rcases h with ⟨h2, e1, e2⟩ | ⟨h2, h⟩
      · exact ⟨e2, by rw [if_pos (Or.inl h2)]; exact e1⟩
      · rw [show ((8 : Int32)).toInt = 8 by decide, h1] at h
        rcases h with ⟨h3, e1, e2⟩ | ⟨h3, e1, e2⟩
        · exact ⟨e2, by rw [if_neg (fun e => e.elim (fun e => h2 e) (fun e => by omega))]; exact e1⟩
        · exact ⟨e2, by rw [if_pos (Or.inr (by omega))]; exact e1⟩
    · cases i with
      | zero => exfalso; omega
      | succ i =>
        have hx : (FI 121 37 + l6i).toInt = ((A + (p + i) : Nat) : Int) := by rw [i_add hn hi (by omega) (by omega)]; omega
        have hx2 : (FI 121 37 + l6i).toInt.toNat = A + (p + i) := by omega
        rw [hx2] at h
        obtain ⟨b, hb0⟩ := ms_ex_i (bs := bs) (i := p + i) (by omega)
        have f1 := (b4 (p + i) b hb0).1
        rw [f1] at h
        refine ih i _ _ v s (by rw [i_add hi (by decide : ((-1 : Int32)).toInt = -1) (by omega) (by omega)]; omega) (by omega) ?_ h
        rw [hl, ms_dp hb0 (by omega)]
        rfl
theorem rf_fx {FI : Nat → Nat → Int32} {p k : Nat} {a1 a2 a3 : Int32} {v : Int64} {s : hS} (hb : bk FI SH 124 A bs) (h1 : a1.toInt = k) (hk : k ≤ 8) (h3 : a3.toInt = ((A + bs.length : Nat) : Int)) (hn : (FI 121 37).toInt = ((A + p : Nat) : Int)) (hp : p ≤ bs.length) (hd : (FI 121 38).toInt = 0) (h : RX12_fixed a1 a2 a3 n sl SH FI FL FR v s) : (bs.length < p + k ∧ s = (n, sl, SH, h_up FI 121 38 1, FL, FR)) ∨ (p + k ≤ bs.length ∧ s = (n, sl, SH, h_up FI 121 37 (FI 121 37 + a1), FL, FR) ∧ v = (if a2.toInt = 0 ∨ k = 8 then ms_le ((bs.drop p).take k) else ms_sx a1 (ms_le ((bs.drop p).take k)))) := by
  have hb3 := hb.2.1
  have hb4 := hb.2.2.1
  have h := P_p h hd
  rw [i_add hn h1 (by omega) (by omega), h3] at h
  rcases h with ⟨h2, -, e⟩ | ⟨h2, g, h⟩
  · exact Or.inl ⟨by omega, e⟩
  · refine Or.inr ⟨by omega, ?_⟩
    refine rf_34 hb h1 hk hn (by omega) g k _ _ v s ?_ (Nat.le_refl _) ?_ h
    · rw [i_sub h1 (by decide : ((1 : Int32)).toInt = 1) (by omega) (by omega)]
    · rw [List.drop_of_length_le (by rw [ms_ln (by omega)]; exact Nat.le_refl _)]
      rfl
/-- what a LEB has left -/
def rl_c (A : Nat) (bs : List Int32) (FI F2 : Nat → Nat → Int32) (v : Int64) (r : Int ⊕ (Int64 × Nat)) : Prop := match r with
  | .inl e => (F2 121 38).toInt = e ∧ e ≠ 0
  | .inr x => F2 121 38 = FI 121 38 ∧ v = x.1 ∧ (F2 121 37).toInt = ((A + x.2 : Nat) : Int) ∧ x.2 ≤ bs.length
theorem rl_14 {a1 a2 : Int32} {sg : Bool} (hs : a1.toInt = 0 ↔ sg = false) (h3 : a2.toInt = ((A + bs.length : Nat) : Int)) : ∀ (g i p : Nat) (l3l : Int64) (l5i : Int32) (FI : Nat → Nat → Int32) (v : Int64) (s : hS), l5i.toInt = i → i ≤ 10 → bk FI SH 124 A bs → (FI 121 37).toInt = ((A + p : Nat) : Int) → p ≤ bs.length → GX12_leb_14 a1 a2 g l3l l5i n sl SH FI FL FR v s → ∃ F2, s = (n, sl, SH, F2, FL, FR) ∧ fk [37, 38] FI F2 ∧ rl_c A bs FI F2 v (ms_lb sg bs (10 - i) i p l3l) := by
  intro g
  induction g with
  | zero => intro i p l3l l5i FI v s _ _ _ _ _ h; exact h.elim
  | succ g ih =>
    intro i p l3l l5i FI v s hi hik hb hn hp h
    have b2 := hb.2.1
    have b3 := hb.2.2.1
    have b4 := hb.2.2.2
    rcases h with ⟨h0, h⟩ | ⟨h0, -, e2⟩
    · rw [show ((10 : Int32)).toInt = 10 by decide] at h0
      rw [show 10 - i = (10 - (i + 1)) + 1 by omega, ms_lb]
      rw [hn, h3] at h
      rcases h with ⟨h1, -, h⟩ | ⟨h1, -, e2⟩
      · obtain ⟨b, hb0⟩ := ms_ex_i (bs := bs) (i := p) (by omega)
        have f1 := b4 p b hb0
        rw [hb0]
        dsimp only
        rw [show (((A + p : Nat) : Int)).toNat = A + p by omega, f1.1, show ((128 : Int32)).toInt = 128 by decide, i_of hi (by omega)] at h
        have hx : (FI 121 37 + (1 : Int32)).toInt = ((A + (p + 1) : Nat) : Int) := by rw [i_add hn (by decide : ((1 : Int32)).toInt = 1) (by omega) (by omega)]; omega
        have k1 : (h_up FI 121 37 (FI 121 37 + (1 : Int32))) 121 38 = FI 121 38 := h_up_ne (by decide)
        have k2 : ((h_up FI 121 37 (FI 121 37 + (1 : Int32))) 121 37).toInt = ((A + (p + 1) : Nat) : Int) := by rw [h_up_eq]; exact hx
        rcases h with ⟨hb1, h⟩ | ⟨hb1, h⟩
        · rw [if_pos hb1]
          rcases h with ⟨h2, e1, e2⟩ | ⟨h2, h⟩
          · exact ⟨_, e2, fk_up fk_rf (by decide), k1, by rw [if_neg (fun e => by rw [hs.mp h2] at e; exact absurd e.1 (by decide))]; exact e1, k2, by omega⟩
          · have hsg : sg = true := by
              cases sg with
              | true => rfl
              | false => exact absurd (hs.mpr rfl) h2
            have e7 : (Int32.ofNat i + (1 : Int32)) = Int32.ofNat (i + 1) := i_of (by rw [i_add (i_lit (by omega)) (by decide : ((1 : Int32)).toInt = 1) (by omega) (by omega)]; omega) (by omega)
            have e8 : ((7 : Int32) * Int32.ofNat (i + 1)).toInt = 7 * ((i + 1 : Nat) : Int) := i_mul (by decide) (i_lit (by omega)) (by omega) (by omega)
            rw [e7, e8, show ((64 : Int32)).toInt = 64 by decide] at h
            rcases h with ⟨h5, h⟩ | ⟨h5, e1, e2⟩
            · rcases h with ⟨h6, e1, e2⟩ | ⟨h6, e1, e2⟩
              · exact ⟨_, e2, fk_up fk_rf (by decide), k1, by rw [if_neg (fun e => e.2.2 h6)]; exact e1, k2, by omega⟩
              · exact ⟨_, e2, fk_up fk_rf (by decide), k1, by rw [if_pos ⟨hsg, by omega, h6⟩]; exact e1, k2, by omega⟩
            · exact ⟨_, e2, fk_up fk_rf (by decide), k1, by rw [if_neg (fun e => h5 (by have := e.2.1; omega))]; exact e1, k2, by omega⟩
        · rw [if_neg hb1]
          have e7 : (Int32.ofNat i + (1 : Int32)).toInt = ((i + 1 : Nat) : Int) := by rw [i_add (i_lit (by omega)) (by decide : ((1 : Int32)).toInt = 1) (by omega) (by omega)]; omega
          obtain ⟨F2, e, f, r⟩ := ih (i + 1) (p + 1) _ _ _ v s e7 (by omega) (bk_fr hb (h_up_nc (by decide))) k2 (by omega) h
          refine ⟨F2, e, fk_tr (fk_up fk_rf (by decide)) f, ?_⟩
          revert r
          show rl_c A bs _ F2 v (ms_lb sg bs (10 - (i + 1)) (i + 1) (p + 1) (ms_l7 l3l b i)) → _
          generalize ms_lb sg bs (10 - (i + 1)) (i + 1) (p + 1) (ms_l7 l3l b i) = q
          intro r
          match q, r with
          | .inl e, r => exact r
          | .inr x, r => exact ⟨r.1.trans k1, r.2⟩
      · have e : p = bs.length := by omega
        rw [List.getElem?_eq_none (by omega)]
        exact ⟨_, e2, fk_up fk_rf (by decide), by rw [h_up_eq]; decide, by decide⟩
    · rw [show ((10 : Int32)).toInt = 10 by decide] at h0
      have e : i = 10 := by omega
      subst e
      show ∃ F2, s = (n, sl, SH, F2, FL, FR) ∧ fk [37, 38] FI F2 ∧ rl_c A bs FI F2 v (.inl 15)
      exact ⟨_, e2, fk_up fk_rf (by decide), by rw [h_up_eq]; decide, by decide⟩
theorem rl_leb {FI : Nat → Nat → Int32} {p : Nat} {a1 a2 : Int32} {sg : Bool} {v : Int64} {s : hS} (hs : a1.toInt = 0 ↔ sg = false) (h3 : a2.toInt = ((A + bs.length : Nat) : Int)) (hb : bk FI SH 124 A bs) (hn : (FI 121 37).toInt = ((A + p : Nat) : Int)) (hp : p ≤ bs.length) (hd : (FI 121 38).toInt = 0) (h : RX12_leb a1 a2 n sl SH FI FL FR v s) : ∃ F2, s = (n, sl, SH, F2, FL, FR) ∧ fk [37, 38] FI F2 ∧ rl_c A bs FI F2 v (ms_lb sg bs 10 0 p 0) := by
  obtain ⟨g, h⟩ := P_p h hd
  exact rl_14 hs h3 g 0 p _ _ FI v s (by decide) (by omega) hb hn hp h
theorem ms_s8 (v : Int64) : ms_sx (8 : Int32) v = v := by
  unfold ms_sx
  have e : ((((64 : Int32)) - (((8 : Int32)) * ((8 : Int32)))).toInt64 &&& 63) = Int64.ofNat (8 * 0) := by decide
  rw [e]
  apply Int64.toBitVec_inj.mp
  rw [l_sshr _ 0 (by decide), l_shl _ 0 (by decide)]
  simp
/-- what decoding has left -/
def ro_c (A : Nat) (bs : List Int32) (w : Bool) (FI F2 : Nat → Nat → Int32) (FL L2 : Nat → Nat → Int64) (r : Int ⊕ ms_O) : Prop := fk [37, 38] FI F2 ∧ fk [35, 36] FL L2 ∧ match r with
  | .inl e => (F2 121 38).toInt = e ∧ e ≠ 0
  | .inr x => (F2 121 38).toInt = 0 ∧ L2 121 35 = x.1 ∧ (w = false → L2 121 36 = x.2.1) ∧ (w = true → 0 ≤ x.1.toInt ∧ x.1.toInt ≤ x.2.2.1 ∧ (L2 121 36).toInt = ((A + (x.2.2.1 - x.1.toInt.toNat) : Nat) : Int)) ∧ (F2 121 37).toInt = ((A + x.2.2.1 : Nat) : Int) ∧ x.2.2.1 ≤ bs.length
variable {FI : Nat → Nat → Int32}
theorem ro_fx {p k : Nat} {a a2 b : Int32} {u : Unit} {s : hS} (hb : bk FI SH 124 A bs) (h3 : a2.toInt = ((A + bs.length : Nat) : Int)) (hn : (FI 121 37).toInt = ((A + p : Nat) : Int)) (hp : p ≤ bs.length) (h1 : a.toInt = k) (hk : k ≤ 8) (h : P_bi (RX12_fixed a b a2 n sl SH (h_up FI 121 38 ((0 : Int32))) (h_up (h_up FL 121 35 ((0 : Int64))) 121 36 ((0 : Int64))) FR) (fun v n sl SH FI FL FR => P_ret () (n, sl, SH, FI, h_up FL 121 35 v, FR)) u s) : ∃ F2 L2, s = (n, sl, SH, F2, L2, FR) ∧ ro_c A bs false FI F2 FL L2 (ms_o1 (if b.toInt = 0 then ms_fx bs p k else ms_fs bs p k)) := by
  obtain ⟨v, n1, sl1, SH1, FI1, FL1, FR1, h, -, e⟩ := h
  have z : ((h_up FI 121 38 ((0 : Int32))) 121 37) = FI 121 37 := h_up_ne (by decide)
  have h := rf_fx (p := p) (bk_fr hb (h_up_nc (by decide))) h1 hk h3 (by rw [z]; exact hn) hp (by rw [h_up_eq]; decide) h
  rw [z] at h
  have ek : a = Int32.ofNat k := i_of h1 (by omega)
  have b3 := hb.2.2.1
  have b2 := hb.2.1
  rcases h with ⟨hl, e1⟩ | ⟨hl, e1, ev⟩
  · cases e1
    refine ⟨_, _, e, fk_up (fk_up fk_rf (by decide)) (by decide), fk_up (fk_up (fk_up fk_rf (by decide)) (by decide)) (by decide), ?_⟩
    have q : (if b.toInt = 0 then ms_fx bs p k else ms_fs bs p k) = .inl 1 := by
      split
      · unfold ms_fx; rw [if_pos hl]
      · unfold ms_fs; rw [if_pos hl]
    rw [q]
    exact ⟨by rw [h_up_eq]; decide, by decide⟩
  · cases e1
    refine ⟨_, _, e, fk_up (fk_up fk_rf (by decide)) (by decide), fk_up (fk_up (fk_up fk_rf (by decide)) (by decide)) (by decide), ?_⟩
    have q : (if b.toInt = 0 then ms_fx bs p k else ms_fs bs p k) = .inr (v, p + k) := by
      split
      · rename_i hz
        unfold ms_fx; rw [if_neg (by omega), ev, if_pos (Or.inl hz)]
      · rename_i hz
        unfold ms_fs; rw [if_neg (by omega), ev]
        by_cases h8 : k = 8
        · rw [if_pos (Or.inr h8), h8]
          have := ms_s8 (ms_le ((bs.drop p).take 8))
          rw [show (Int32.ofNat 8) = (8 : Int32) from rfl, this]
        · rw [if_neg (fun e => e.elim hz h8), ek]
    rw [q]
    refine ⟨by rw [h_up_ne (by decide), h_up_eq]; decide, by rw [h_up_eq], fun _ => by rw [h_up_ne (by decide), h_up_eq], fun e => absurd e (by decide), ?_, hl⟩
    rw [h_up_eq, i_add hn h1 (by omega) (by omega)]
    show _ = ((A + (p + k) : Nat) : Int)
    omega
theorem ro_lb {p : Nat} {a a2 : Int32} {sg : Bool} {u : Unit} {s : hS} (hb : bk FI SH 124 A bs) (h3 : a2.toInt = ((A + bs.length : Nat) : Int)) (hn : (FI 121 37).toInt = ((A + p : Nat) : Int)) (hp : p ≤ bs.length) (hs : a.toInt = 0 ↔ sg = false) (h : P_bi (RX12_leb a a2 n sl SH (h_up FI 121 38 ((0 : Int32))) (h_up (h_up FL 121 35 ((0 : Int64))) 121 36 ((0 : Int64))) FR) (fun v n sl SH FI FL FR => P_ret () (n, sl, SH, FI, h_up FL 121 35 v, FR)) u s) : ∃ F2 L2, s = (n, sl, SH, F2, L2, FR) ∧ ro_c A bs false FI F2 FL L2 (ms_o1 (ms_lb sg bs 10 0 p 0)) := by
  obtain ⟨v, n1, sl1, SH1, FI1, FL1, FR1, h, -, e⟩ := h
  have z : ((h_up FI 121 38 ((0 : Int32))) 121 37) = FI 121 37 := h_up_ne (by decide)
  obtain ⟨F2, e1, f, r⟩ := rl_leb (p := p) hs h3 (bk_fr hb (h_up_nc (by decide))) (by rw [z]; exact hn) hp (by rw [h_up_eq]; decide) h
  cases e1
  refine ⟨_, _, e, fk_tr (fk_up fk_rf (by decide)) f, fk_up (fk_up (fk_up fk_rf (by decide)) (by decide)) (by decide), ?_⟩
  generalize ms_lb sg bs 10 0 p 0 = q at r
  match q, r with
  | .inl e, r => exact r
  | .inr x, r =>
    obtain ⟨r1, r2, r3, r4⟩ := r
    exact ⟨by rw [r1, h_up_eq]; decide, by rw [h_up_eq]; exact r2, fun _ => by rw [h_up_ne (by decide), h_up_eq], fun e => absurd e (by decide), r3, r4⟩
end RD
end
section
/-! THE REFERENCE'S OPERANDS. -/
theorem ms_sh0 {c : Int} (h : ¬ (c = 8 ∨ c = 21 ∨ c = 148 ∨ c = 10 ∨ c = 152 ∨ c = 12 ∨ c = 153 ∨ c = 3 ∨ c = 14 ∨ c = 9 ∨ c = 11 ∨ c = 40 ∨ c = 47 ∨ c = 13 ∨ c = 15 ∨ c = 16 ∨ c = 35 ∨ c = 144 ∨ c = 147 ∨ c = 17 ∨ c = 145 ∨ (112 ≤ c ∧ c ≤ 143) ∨ c = 146 ∨ c = 157 ∨ c = 158)) : ms_sh c = 0 := by
  unfold ms_sh
  rw [if_neg (by omega), if_neg (by omega), if_neg (by omega), if_neg (by omega), if_neg (by omega), if_neg (by omega), if_neg (by omega), if_neg (by omega), if_neg (by omega), if_neg (by omega), if_neg (by omega), if_neg (by omega), if_neg (by omega)]
theorem ms_sh21 {c : Int} (h : 112 ≤ c ∧ c ≤ 143) : ms_sh c = 21 := by
  unfold ms_sh
  rw [if_neg (by omega), if_neg (by omega), if_neg (by omega), if_neg (by omega), if_neg (by omega), if_neg (by omega), if_neg (by omega), if_neg (by omega), if_neg (by omega), if_pos (Or.inr (Or.inr h))]
theorem ms_op0 {c : Int} {bs : List Int32} {p : Nat} (hk : ms_kn c = true) (h : ms_sh c = 0) : ms_op c bs p = ms_o1 (ms_fx bs p 0) := by
  unfold ms_op
  rw [if_neg (by rw [hk]; decide), h]
  rfl
theorem ms_op21 {c : Int} {bs : List Int32} {p : Nat} (hk : ms_kn c = true) (h : ms_sh c = 21) : ms_op c bs p = ms_o1 (ms_li bs p) := by
  unfold ms_op
  rw [if_neg (by rw [hk]; decide), h]
  rfl
section RO
variable {n sl : Nat} {SH : Nat → Nat × Nat} {FI : Nat → Nat → Int32} {FL : Nat → Nat → Int64} {FR : Nat → Nat → Option Nat} {A : Nat} {bs : List Int32}
theorem ro_2 {p : Nat} {a a2 : Int32} {sg : Bool} {u : Unit} {s : hS} (hb : bk FI SH 124 A bs) (h3 : a2.toInt = ((A + bs.length : Nat) : Int)) (hn : (FI 121 37).toInt = ((A + p : Nat) : Int)) (hp : p ≤ bs.length) (hs : a.toInt = 0 ↔ sg = false) (h : P_bi (RX12_leb ((0 : Int32)) a2 n sl SH (h_up FI 121 38 ((0 : Int32))) (h_up (h_up FL 121 35 ((0 : Int64))) 121 36 ((0 : Int64))) FR) (fun v n sl SH FI FL FR => P_bi (RX12_leb a a2 n sl SH FI (h_up FL 121 35 v) FR) (fun v2 n sl SH FI FL FR => P_ret () (n, sl, SH, FI, h_up FL 121 36 v2, FR))) u s) : ∃ F2 L2, s = (n, sl, SH, F2, L2, FR) ∧ ro_c A bs false FI F2 FL L2 (ms_o2 (ms_lu bs p) (fun q => ms_lb sg bs 10 0 q 0)) := by
  obtain ⟨v, n1, sl1, SH1, FI1, FL1, FR1, h, v2, n2, sl2, SH2, FI2, FL2, FR2, h2, -, e⟩ := h
  have z : ((h_up FI 121 38 ((0 : Int32))) 121 37) = FI 121 37 := h_up_ne (by decide)
  have hb2 : bk (h_up FI 121 38 ((0 : Int32))) SH 124 A bs := bk_fr hb (h_up_nc (by decide))
  obtain ⟨F1, e1, f, r⟩ := rl_leb (p := p) (sg := false) (by decide) h3 hb2 (by rw [z]; exact hn) hp (by rw [h_up_eq]; decide) h
  cases e1
  unfold ms_lu
  generalize ms_lb false bs 10 0 p 0 = q at r
  match q, r with
  | .inl e9, r =>
    obtain ⟨r1, r2⟩ := r
    have h2 := P_n h2 (by rw [r1]; exact r2)
    obtain ⟨-, e2⟩ := h2
    cases e2
    exact ⟨_, _, e, fk_tr (fk_up fk_rf (by decide)) f, fk_up (fk_up (fk_up (fk_up fk_rf (by decide)) (by decide)) (by decide)) (by decide), r1, r2⟩
  | .inr x, r =>
    obtain ⟨r1, r2, r3, r4⟩ := r
    obtain ⟨F3, e3, f3, r⟩ := rl_leb (p := x.2) hs h3 (bk_fr hb2 (fk_row f (by decide))) r3 r4 (by rw [r1, h_up_eq]; decide) h2
    cases e3
    refine ⟨_, _, e, fk_tr (fk_tr (fk_up fk_rf (by decide)) f) f3, fk_up (fk_up (fk_up (fk_up fk_rf (by decide)) (by decide)) (by decide)) (by decide), ?_⟩
    show match (match ms_lb sg bs 10 0 x.2 0 with | .inl e => .inl e | .inr y => .inr (x.1, y.1, y.2, []) : Int ⊕ ms_O) with | .inl e => _ | .inr x => _
    generalize ms_lb sg bs 10 0 x.2 0 = q2 at r
    match q2, r with
    | .inl e8, r => exact r
    | .inr y, r =>
      obtain ⟨q1, q2, q3, q4⟩ := r
      exact ⟨by rw [q1, r1, h_up_eq]; decide, by rw [h_up_ne (by decide), h_up_eq]; exact r2, fun _ => by rw [h_up_eq]; exact q2, fun e => absurd e (by decide), q3, q4⟩
theorem ro_397 {p : Nat} {c a2 : Int32} {u : Unit} {s : hS} (hb : bk FI SH 124 A bs) (h3 : a2.toInt = ((A + bs.length : Nat) : Int)) (hn : (FI 121 37).toInt = ((A + p : Nat) : Int)) (hp : p ≤ bs.length) {o : Int64} (hA : A + bs.length ≤ 2000000000) (hd : (FI 121 38).toInt = 0) (h0 : FL 121 35 = o) (h1 : 0 ≤ o.toInt) (h2 : o.toInt ≤ (bs.length : Int) - p) (h : RX12_operands_397 c a2 n sl SH FI FL FR u s) : s = (n, sl, SH, h_up FI 121 37 (FI 121 37 + (FL 121 35).toInt32), h_up FL 121 36 ((FI 121 37).toInt64), FR) := by
  have h := P_p h hd
  exact h.2
theorem ro_3 {p : Nat} {c a2 : Int32} {u : Unit} {s : hS} (hb : bk FI SH 124 A bs) (h3 : a2.toInt = ((A + bs.length : Nat) : Int)) (hn : (FI 121 37).toInt = ((A + p : Nat) : Int)) (hp : p ≤ bs.length) (h : P_bi (RX12_leb ((0 : Int32)) a2 n sl SH (h_up FI 121 38 ((0 : Int32))) (h_up (h_up FL 121 35 ((0 : Int64))) 121 36 ((0 : Int64))) FR) (fun v n sl SH FI FL FR => P_if ((FI 121 38).toInt = 0) (P_if (v.toInt < ((0 : Int64)).toInt) (RX12_operands_392 c a2 n sl SH FI (h_up FL 121 35 v) FR) (P_if (((a2 - FI 121 37).toInt64).toInt < v.toInt) (RX12_operands_392 c a2 n sl SH FI (h_up FL 121 35 v) FR) (RX12_operands_397 c a2 n sl SH FI (h_up FL 121 35 v) FR))) (RX12_operands_397 c a2 n sl SH FI (h_up FL 121 35 v) FR)) u s) : ∃ F2 L2, s = (n, sl, SH, F2, L2, FR) ∧ ro_c A bs true FI F2 FL L2 (ms_o3 bs (ms_lu bs p)) := by
  obtain ⟨v, n1, sl1, SH1, FI1, FL1, FR1, h, h2⟩ := h
  have z : ((h_up FI 121 38 ((0 : Int32))) 121 37) = FI 121 37 := h_up_ne (by decide)
  have hb2 : bk (h_up FI 121 38 ((0 : Int32))) SH 124 A bs := bk_fr hb (h_up_nc (by decide))
  obtain ⟨F1, e1, f, r⟩ := rl_leb (p := p) (sg := false) (by decide) h3 hb2 (by rw [z]; exact hn) hp (by rw [h_up_eq]; decide) h
  cases e1
  have b2 := hb.2.1
  have b3 := hb.2.2.1
  unfold ms_lu
  have fF : fk [37, 38] FI FI1 := fk_tr (fk_up fk_rf (by decide)) f
  have fL : fk [35, 36] FL (h_up (h_up (h_up FL 121 35 ((0 : Int64))) 121 36 ((0 : Int64))) 121 35 v) := fk_up (fk_up (fk_up fk_rf (by decide)) (by decide)) (by decide)
  generalize ms_lb false bs 10 0 p 0 = q at r
  match q, r with
  | .inl e9, r =>
    obtain ⟨r1, r2⟩ := r
    have h2 := P_n h2 (by rw [r1]; exact r2)
    have h2 := P_n h2 (by rw [r1]; exact r2)
    obtain ⟨-, e2⟩ := h2
    exact ⟨_, _, e2, fF, fL, r1, r2⟩
  | .inr x, r =>
    obtain ⟨r1, r2, r3, r4⟩ := r
    have r0 : (FI1 121 38).toInt = 0 := by rw [r1, h_up_eq]; decide
    have h2 := P_p h2 r0
    have hx : ((a2 - FI1 121 37).toInt64).toInt = (bs.length : Int) - x.2 := i_2l (by rw [i_sub h3 r3 (by omega) (by omega)]; omega)
    rw [hx, show ((0 : Int64)).toInt = 0 by decide, r2] at h2
    have bad : ∀ {w : Int64}, RX12_operands_392 c a2 n sl SH FI1 (h_up (h_up (h_up FL 121 35 ((0 : Int64))) 121 36 ((0 : Int64))) 121 35 w) FR u s → s = (n, sl, SH, h_up FI1 121 38 ((1 : Int32)), h_up (h_up (h_up FL 121 35 ((0 : Int64))) 121 36 ((0 : Int64))) 121 35 w, FR) := by
      intro w h
      have h := P_n h (by rw [h_up_eq]; decide)
      exact h.2
    unfold ms_o3
    dsimp only
    rw [r2] at fL
    rcases h2 with ⟨g1, h2⟩ | ⟨g1, h2⟩
    · rw [if_pos (Or.inl g1)]
      exact ⟨_, _, bad h2, fk_up fF (by decide), fL, by rw [h_up_eq]; decide, by decide⟩
    · rcases h2 with ⟨g2, h2⟩ | ⟨g2, h2⟩
      · rw [if_pos (Or.inr g2)]
        exact ⟨_, _, bad h2, fk_up fF (by decide), fL, by rw [h_up_eq]; decide, by decide⟩
      · rw [if_neg (fun e => e.elim g1 g2)]
        have e := (P_p h2 r0).2
        rw [h_up_eq] at e
        have x0 : ((x.1.toInt.toNat : Nat) : Int) = x.1.toInt := by omega
        refine ⟨_, _, e, fk_up fF (by decide), fk_up fL (by decide), by rw [h_up_ne (by decide)]; exact r0, by rw [h_up_ne (by decide), h_up_eq], fun e => absurd e (by decide), fun _ => ⟨by show 0 ≤ x.1.toInt; omega, ?_, ?_⟩, ?_, ?_⟩
        · show x.1.toInt ≤ ((x.2 + x.1.toInt.toNat : Nat) : Int)
          omega
        · rw [h_up_eq, i_2l r3]
          show _ = ((A + (x.2 + x.1.toInt.toNat - x.1.toInt.toNat) : Nat) : Int)
          omega
        · rw [h_up_eq, i_add r3 (l_2i rfl (by omega) (by omega)) (by omega) (by omega)]
          show _ = ((A + (x.2 + x.1.toInt.toNat) : Nat) : Int)
          omega
        · show x.2 + x.1.toInt.toNat ≤ bs.length
          omega
theorem ro_264 {p : Nat} {c a2 : Int32} {u : Unit} {s : hS} (hb : bk FI SH 124 A bs) (h3 : a2.toInt = ((A + bs.length : Nat) : Int)) (hn : (FI 121 37).toInt = ((A + p : Nat) : Int)) (hp : p ≤ bs.length) (hc : ¬ (c.toInt = 3 ∨ c.toInt = 14 ∨ c.toInt = 15 ∨ c.toInt = 8 ∨ c.toInt = 21 ∨ c.toInt = 148 ∨ c.toInt = 9 ∨ c.toInt = 10 ∨ c.toInt = 152 ∨ c.toInt = 11 ∨ c.toInt = 40 ∨ c.toInt = 47 ∨ c.toInt = 12 ∨ c.toInt = 153 ∨ c.toInt = 13 ∨ c.toInt = 16 ∨ c.toInt = 35 ∨ c.toInt = 144 ∨ c.toInt = 147 ∨ c.toInt = 17)) (hr : ¬ (112 ≤ c.toInt ∧ c.toInt ≤ 143)) (hk : ms_kn c.toInt = true) (h : RX12_operands_264 c a2 n sl SH (h_up FI 121 38 ((0 : Int32))) (h_up (h_up FL 121 35 ((0 : Int64))) 121 36 ((0 : Int64))) FR u s) : ∃ F2 L2, s = (n, sl, SH, F2, L2, FR) ∧ ro_c A bs (decide (c.toInt = 158)) FI F2 FL L2 (ms_op c.toInt bs p) := by
  rcases h with ⟨hx, h⟩ | ⟨n145, h⟩
  · rw [show ((145 : Int32)).toInt = 145 by decide] at hx
    rw [hx, show ms_op (145 : Int) bs p = ms_o1 (ms_li bs p) from (by first | rfl | simp [ms_op, ms_kn, ms_sh])]
    exact ro_lb (sg := true) hb h3 hn hp (by decide) h
  rw [show ((145 : Int32)).toInt = 145 by decide] at n145
  rcases h with ⟨hx, h⟩ | ⟨n146, h⟩
  · rw [show ((146 : Int32)).toInt = 146 by decide] at hx
    rw [hx, show ms_op (146 : Int) bs p = ms_o2 (ms_lu bs p) (ms_li bs) from (by first | rfl | simp [ms_op, ms_kn, ms_sh])]
    exact ro_2 (sg := true) hb h3 hn hp (by decide) h
  rw [show ((146 : Int32)).toInt = 146 by decide] at n146
  rcases h with ⟨hx, h⟩ | ⟨n157, h⟩
  · rw [show ((157 : Int32)).toInt = 157 by decide] at hx
    rw [hx, show ms_op (157 : Int) bs p = ms_o2 (ms_lu bs p) (ms_lu bs) from (by first | rfl | simp [ms_op, ms_kn, ms_sh])]
    exact ro_2 (sg := false) hb h3 hn hp (by decide) h
  rw [show ((157 : Int32)).toInt = 157 by decide] at n157
  rcases h with ⟨hx, h⟩ | ⟨n158, h⟩
  · rw [show ((158 : Int32)).toInt = 158 by decide] at hx
    rw [hx, show ms_op (158 : Int) bs p = ms_o3 bs (ms_lu bs p) from (by first | rfl | simp [ms_op, ms_kn, ms_sh])]
    exact ro_3 hb h3 hn hp h
  rw [show ((158 : Int32)).toInt = 158 by decide] at n158
  obtain ⟨-, e⟩ := h
  rw [ms_op0 hk (ms_sh0 (by omega)), decide_eq_false n158]
  refine ⟨_, _, e, fk_up fk_rf (by decide), fk_up (fk_up fk_rf (by decide)) (by decide), ?_⟩
  unfold ms_fx
  rw [if_neg (by omega)]
  refine ⟨by rw [h_up_eq]; decide, by rw [h_up_ne (by decide), h_up_eq]; rfl, fun _ => by rw [h_up_eq], fun e => absurd e (by decide), ?_, hp⟩
  rw [h_up_ne (by decide)]
  exact hn
theorem ro_op {p : Nat} {c a2 : Int32} {u : Unit} {s : hS} (hb : bk FI SH 124 A bs) (h3 : a2.toInt = ((A + bs.length : Nat) : Int)) (hn : (FI 121 37).toInt = ((A + p : Nat) : Int)) (hp : p ≤ bs.length) (hk : ms_kn c.toInt = true) (h : RX12_operands c a2 n sl SH FI FL FR u s) : ∃ F2 L2, s = (n, sl, SH, F2, L2, FR) ∧ ro_c A bs (decide (c.toInt = 158)) FI F2 FL L2 (ms_op c.toInt bs p) := by
  rcases h with ⟨hx, h⟩ | ⟨n3, h⟩
  · rw [show ((3 : Int32)).toInt = 3 by decide] at hx
    rw [hx, show ms_op (3 : Int) bs p = ms_o1 (if ((0 : Int32)).toInt = 0 then ms_fx bs p 8 else ms_fs bs p 8) from (by first | rfl | simp [ms_op, ms_kn, ms_sh])]
    exact ro_fx (k := 8) hb h3 hn hp (by decide) (by decide) h
  rw [show ((3 : Int32)).toInt = 3 by decide] at n3
  rcases h with ⟨hx, h⟩ | ⟨n14, h⟩
  · rw [show ((14 : Int32)).toInt = 14 by decide] at hx
    rw [hx, show ms_op (14 : Int) bs p = ms_o1 (if ((0 : Int32)).toInt = 0 then ms_fx bs p 8 else ms_fs bs p 8) from (by first | rfl | simp [ms_op, ms_kn, ms_sh])]
    exact ro_fx (k := 8) hb h3 hn hp (by decide) (by decide) h
  rw [show ((14 : Int32)).toInt = 14 by decide] at n14
  rcases h with ⟨hx, h⟩ | ⟨n15, h⟩
  · rw [show ((15 : Int32)).toInt = 15 by decide] at hx
    have h := ro_fx (k := 8) hb h3 hn hp (by decide) (by decide) h
    rw [if_pos (by decide)] at h
    have e : ms_fs bs p 8 = ms_fx bs p 8 := by unfold ms_fs ms_fx; rw [show (Int32.ofNat 8) = (8 : Int32) from rfl, ms_s8]
    rw [hx, show ms_op (15 : Int) bs p = ms_o1 (ms_fs bs p 8) from (by first | rfl | simp [ms_op, ms_kn, ms_sh]), e]
    exact h
  rw [show ((15 : Int32)).toInt = 15 by decide] at n15
  rcases h with ⟨hx, h⟩ | ⟨n8, h⟩
  · rw [show ((8 : Int32)).toInt = 8 by decide] at hx
    rw [hx, show ms_op (8 : Int) bs p = ms_o1 (if ((0 : Int32)).toInt = 0 then ms_fx bs p 1 else ms_fs bs p 1) from (by first | rfl | simp [ms_op, ms_kn, ms_sh])]
    exact ro_fx (k := 1) hb h3 hn hp (by decide) (by decide) h
  rw [show ((8 : Int32)).toInt = 8 by decide] at n8
  rcases h with ⟨hx, h⟩ | ⟨n21, h⟩
  · rw [show ((21 : Int32)).toInt = 21 by decide] at hx
    rw [hx, show ms_op (21 : Int) bs p = ms_o1 (if ((0 : Int32)).toInt = 0 then ms_fx bs p 1 else ms_fs bs p 1) from (by first | rfl | simp [ms_op, ms_kn, ms_sh])]
    exact ro_fx (k := 1) hb h3 hn hp (by decide) (by decide) h
  rw [show ((21 : Int32)).toInt = 21 by decide] at n21
  rcases h with ⟨hx, h⟩ | ⟨n148, h⟩
  · rw [show ((148 : Int32)).toInt = 148 by decide] at hx
    rw [hx, show ms_op (148 : Int) bs p = ms_o1 (if ((0 : Int32)).toInt = 0 then ms_fx bs p 1 else ms_fs bs p 1) from (by first | rfl | simp [ms_op, ms_kn, ms_sh])]
    exact ro_fx (k := 1) hb h3 hn hp (by decide) (by decide) h
  rw [show ((148 : Int32)).toInt = 148 by decide] at n148
  rcases h with ⟨hx, h⟩ | ⟨n9, h⟩
  · rw [show ((9 : Int32)).toInt = 9 by decide] at hx
    rw [hx, show ms_op (9 : Int) bs p = ms_o1 (if ((1 : Int32)).toInt = 0 then ms_fx bs p 1 else ms_fs bs p 1) from (by first | rfl | simp [ms_op, ms_kn, ms_sh])]
    exact ro_fx (k := 1) hb h3 hn hp (by decide) (by decide) h
  rw [show ((9 : Int32)).toInt = 9 by decide] at n9
  rcases h with ⟨hx, h⟩ | ⟨n10, h⟩
  · rw [show ((10 : Int32)).toInt = 10 by decide] at hx
    rw [hx, show ms_op (10 : Int) bs p = ms_o1 (if ((0 : Int32)).toInt = 0 then ms_fx bs p 2 else ms_fs bs p 2) from (by first | rfl | simp [ms_op, ms_kn, ms_sh])]
    exact ro_fx (k := 2) hb h3 hn hp (by decide) (by decide) h
  rw [show ((10 : Int32)).toInt = 10 by decide] at n10
  rcases h with ⟨hx, h⟩ | ⟨n152, h⟩
  · rw [show ((152 : Int32)).toInt = 152 by decide] at hx
    rw [hx, show ms_op (152 : Int) bs p = ms_o1 (if ((0 : Int32)).toInt = 0 then ms_fx bs p 2 else ms_fs bs p 2) from (by first | rfl | simp [ms_op, ms_kn, ms_sh])]
    exact ro_fx (k := 2) hb h3 hn hp (by decide) (by decide) h
  rw [show ((152 : Int32)).toInt = 152 by decide] at n152
  rcases h with ⟨hx, h⟩ | ⟨n11, h⟩
  · rw [show ((11 : Int32)).toInt = 11 by decide] at hx
    rw [hx, show ms_op (11 : Int) bs p = ms_o1 (if ((1 : Int32)).toInt = 0 then ms_fx bs p 2 else ms_fs bs p 2) from (by first | rfl | simp [ms_op, ms_kn, ms_sh])]
    exact ro_fx (k := 2) hb h3 hn hp (by decide) (by decide) h
  rw [show ((11 : Int32)).toInt = 11 by decide] at n11
  rcases h with ⟨hx, h⟩ | ⟨n40, h⟩
  · rw [show ((40 : Int32)).toInt = 40 by decide] at hx
    rw [hx, show ms_op (40 : Int) bs p = ms_o1 (if ((1 : Int32)).toInt = 0 then ms_fx bs p 2 else ms_fs bs p 2) from (by first | rfl | simp [ms_op, ms_kn, ms_sh])]
    exact ro_fx (k := 2) hb h3 hn hp (by decide) (by decide) h
  rw [show ((40 : Int32)).toInt = 40 by decide] at n40
  rcases h with ⟨hx, h⟩ | ⟨n47, h⟩
  · rw [show ((47 : Int32)).toInt = 47 by decide] at hx
    rw [hx, show ms_op (47 : Int) bs p = ms_o1 (if ((1 : Int32)).toInt = 0 then ms_fx bs p 2 else ms_fs bs p 2) from (by first | rfl | simp [ms_op, ms_kn, ms_sh])]
    exact ro_fx (k := 2) hb h3 hn hp (by decide) (by decide) h
  rw [show ((47 : Int32)).toInt = 47 by decide] at n47
  rcases h with ⟨hx, h⟩ | ⟨n12, h⟩
  · rw [show ((12 : Int32)).toInt = 12 by decide] at hx
    rw [hx, show ms_op (12 : Int) bs p = ms_o1 (if ((0 : Int32)).toInt = 0 then ms_fx bs p 4 else ms_fs bs p 4) from (by first | rfl | simp [ms_op, ms_kn, ms_sh])]
    exact ro_fx (k := 4) hb h3 hn hp (by decide) (by decide) h
  rw [show ((12 : Int32)).toInt = 12 by decide] at n12
  rcases h with ⟨hx, h⟩ | ⟨n153, h⟩
  · rw [show ((153 : Int32)).toInt = 153 by decide] at hx
    rw [hx, show ms_op (153 : Int) bs p = ms_o1 (if ((0 : Int32)).toInt = 0 then ms_fx bs p 4 else ms_fs bs p 4) from (by first | rfl | simp [ms_op, ms_kn, ms_sh])]
    exact ro_fx (k := 4) hb h3 hn hp (by decide) (by decide) h
  rw [show ((153 : Int32)).toInt = 153 by decide] at n153
  rcases h with ⟨hx, h⟩ | ⟨n13, h⟩
  · rw [show ((13 : Int32)).toInt = 13 by decide] at hx
    rw [hx, show ms_op (13 : Int) bs p = ms_o1 (if ((1 : Int32)).toInt = 0 then ms_fx bs p 4 else ms_fs bs p 4) from (by first | rfl | simp [ms_op, ms_kn, ms_sh])]
    exact ro_fx (k := 4) hb h3 hn hp (by decide) (by decide) h
  rw [show ((13 : Int32)).toInt = 13 by decide] at n13
  rcases h with ⟨hx, h⟩ | ⟨n16, h⟩
  · rw [show ((16 : Int32)).toInt = 16 by decide] at hx
    rw [hx, show ms_op (16 : Int) bs p = ms_o1 (ms_lu bs p) from (by first | rfl | simp [ms_op, ms_kn, ms_sh])]
    exact ro_lb (sg := false) hb h3 hn hp (by decide) h
  rw [show ((16 : Int32)).toInt = 16 by decide] at n16
  rcases h with ⟨hx, h⟩ | ⟨n35, h⟩
  · rw [show ((35 : Int32)).toInt = 35 by decide] at hx
    rw [hx, show ms_op (35 : Int) bs p = ms_o1 (ms_lu bs p) from (by first | rfl | simp [ms_op, ms_kn, ms_sh])]
    exact ro_lb (sg := false) hb h3 hn hp (by decide) h
  rw [show ((35 : Int32)).toInt = 35 by decide] at n35
  rcases h with ⟨hx, h⟩ | ⟨n144, h⟩
  · rw [show ((144 : Int32)).toInt = 144 by decide] at hx
    rw [hx, show ms_op (144 : Int) bs p = ms_o1 (ms_lu bs p) from (by first | rfl | simp [ms_op, ms_kn, ms_sh])]
    exact ro_lb (sg := false) hb h3 hn hp (by decide) h
  rw [show ((144 : Int32)).toInt = 144 by decide] at n144
  rcases h with ⟨hx, h⟩ | ⟨n147, h⟩
  · rw [show ((147 : Int32)).toInt = 147 by decide] at hx
    rw [hx, show ms_op (147 : Int) bs p = ms_o1 (ms_lu bs p) from (by first | rfl | simp [ms_op, ms_kn, ms_sh])]
    exact ro_lb (sg := false) hb h3 hn hp (by decide) h
  rw [show ((147 : Int32)).toInt = 147 by decide] at n147
  rcases h with ⟨hx, h⟩ | ⟨n17, h⟩
  · rw [show ((17 : Int32)).toInt = 17 by decide] at hx
    rw [hx, show ms_op (17 : Int) bs p = ms_o1 (ms_li bs p) from (by first | rfl | simp [ms_op, ms_kn, ms_sh])]
    exact ro_lb (sg := true) hb h3 hn hp (by decide) h
  rw [show ((17 : Int32)).toInt = 17 by decide] at n17
  rw [show ((112 : Int32)).toInt = 112 by decide, show ((143 : Int32)).toInt = 143 by decide] at h
  rcases h with ⟨hx, h⟩ | ⟨hx, h⟩
  · exact ro_264 hb h3 hn hp (by omega) (by omega) hk h
  · rcases h with ⟨hy, h⟩ | ⟨hy, h⟩
    · exact ro_264 hb h3 hn hp (by omega) (by omega) hk h
    · rw [ms_op21 hk (ms_sh21 (by omega)), decide_eq_false (show ¬ c.toInt = 158 by omega)]
      exact ro_lb (sg := true) hb h3 hn hp (by decide) h
end RO
end
section
/-! THE REFERENCE'S exec, label by label. -/
theorem fl {k pl v : Int32} {n sl : Nat} {SH : Nat → Nat × Nat} {FI : Nat → Nat → Int32} {FL : Nat → Nat → Int64} {FR : Nat → Nat → Option Nat} {st : hS} (h : P_bi (RX12_fails k pl n sl SH FI FL FR) (fun v1 n1 sl1 SH1 FI1 FL1 FR1 => P_ret v1 (n1, sl1, SH1, FI1, FL1, FR1)) v st) : v = k := by
  obtain ⟨v1, n1, sl1, SH1, FI1, FL1, FR1, ⟨e, -⟩, e2, -⟩ := h
  exact e2.trans e
section XL
variable {K : Int32 → Int32 → Int32 → Int32 → Nat → Nat → (Nat → Nat × Nat) → (Nat → Nat → Int32) → (Nat → Nat → Int64) → (Nat → Nat → Option Nat) → Int32 → hS → Prop} {a1 a2 a3 l4 l5 l6 l7 l8 l9 l10 l11 l16 l21 : Int32} {l12 l14 l17 l19 : Int64} {n sl : Nat} {SH : Nat → Nat × Nat} {FI : Nat → Nat → Int32} {FL : Nat → Nat → Int64} {FR : Nat → Nat → Option Nat} {v : Int32} {st : hS}
theorem x490 (h : RX12_exec_490 K a1 a2 a3 l4 l6 l7 l8 l9 l10 l11 l12 l14 n sl SH FI FL FR v st) : (((l10.toInt = 144 ∨ l10.toInt = 146) ∧ (l12.toInt < 0 ∨ 31 < l12.toInt)) ∧ v = 14) ∨ (¬ ((l10.toInt = 144 ∨ l10.toInt = 146) ∧ (l12.toInt < 0 ∨ 31 < l12.toInt)) ∧ RX12_exec_527 K a1 a2 a3 l4 l6 l7 l8 l9 l10 l11 l12 l14 n sl SH FI FL FR v st) := by
  have z : ∀ h : RX12_exec_506 K a1 a2 a3 l4 l6 l7 l8 l9 l10 l11 l12 l14 n sl SH FI FL FR v st, (((l12.toInt < 0 ∨ 31 < l12.toInt)) ∧ v = 14) ∨ (¬ (l12.toInt < 0 ∨ 31 < l12.toInt) ∧ RX12_exec_527 K a1 a2 a3 l4 l6 l7 l8 l9 l10 l11 l12 l14 n sl SH FI FL FR v st) := by
    intro h
    unfold RX12_exec_506 fX12_isAbove at h
    rw [show ((0 : Int64)).toInt = 0 by decide, show ((31 : Int64)).toInt = 31 by decide] at h
    by_cases h1 : l12.toInt < 0
    · rw [if_pos h1] at h
      exact Or.inl ⟨Or.inl h1, fl (P_n h (by decide))⟩
    · rw [if_neg h1] at h
      by_cases h2 : 31 < l12.toInt
      · rw [if_pos h2] at h
        exact Or.inl ⟨Or.inr h2, fl (P_n h (by decide))⟩
      · rw [if_neg h2] at h
        exact Or.inr ⟨fun e => e.elim h1 h2, P_p h (by decide)⟩
  rcases h with ⟨hx, h⟩ | ⟨hx, h⟩
  · rw [show ((144 : Int32)).toInt = 144 by decide] at hx
    rcases z h with ⟨q, e⟩ | ⟨q, e⟩
    · exact Or.inl ⟨⟨Or.inl hx, q⟩, e⟩
    · exact Or.inr ⟨fun w => q w.2, e⟩
  · rw [show ((144 : Int32)).toInt = 144 by decide] at hx
    rcases h with ⟨hy, h⟩ | ⟨hy, h⟩
    · rw [show ((146 : Int32)).toInt = 146 by decide] at hy
      rcases z h with ⟨q, e⟩ | ⟨q, e⟩
      · exact Or.inl ⟨⟨Or.inr hy, q⟩, e⟩
      · exact Or.inr ⟨fun w => q w.2, e⟩
    · rw [show ((146 : Int32)).toInt = 146 by decide] at hy
      exact Or.inr ⟨fun w => w.1.elim hx hy, h⟩
theorem x527 (h : RX12_exec_527 K a1 a2 a3 l4 l6 l7 l8 l9 l10 l11 l12 l14 n sl SH FI FL FR v st) : ((l10.toInt = 148 ∧ (l12.toInt < 1 ∨ 8 < l12.toInt)) ∧ v = 10) ∨ (¬ (l10.toInt = 148 ∧ (l12.toInt < 1 ∨ 8 < l12.toInt)) ∧ RX12_exec_560 K a1 a2 a3 l4 l6 l7 l8 l9 l10 l11 l12 l14 n sl SH FI FL FR v st) := by
  rcases h with ⟨hx, h⟩ | ⟨hx, h⟩
  · rw [show ((148 : Int32)).toInt = 148 by decide] at hx
    rw [show ((1 : Int64)).toInt = 1 by decide, show ((8 : Int64)).toInt = 8 by decide] at h
    rcases h with ⟨hy, h⟩ | ⟨hy, h⟩
    · exact Or.inl ⟨⟨hx, Or.inl hy⟩, fl h⟩
    · rcases h with ⟨hz, h⟩ | ⟨hz, h⟩
      · exact Or.inl ⟨⟨hx, Or.inr hz⟩, fl h⟩
      · exact Or.inr ⟨fun w => w.2.elim hy hz, h⟩
  · rw [show ((148 : Int32)).toInt = 148 by decide] at hx
    exact Or.inr ⟨fun w => hx w.1, h⟩
theorem x691 (h : RX12_exec_691 K a1 a2 a3 l4 l6 l7 l8 l9 l10 l11 l12 l14 l16 l17 l19 n sl SH FI FL FR v st) (h1 : l10.toInt ≠ 152) (h2 : l10.toInt ≠ 153) : RX12_exec_736 K a1 a2 a3 l4 l6 l7 l8 l9 l10 l11 l12 l14 l16 l17 l19 n sl SH FI FL FR v st := P_n (P_n h (by rw [show ((152 : Int32)).toInt = 152 by decide]; exact h1)) (by rw [show ((153 : Int32)).toInt = 153 by decide]; exact h2)
theorem x691c (h : RX12_exec_691 K a1 a2 a3 l4 l6 l7 l8 l9 l10 l11 l12 l14 l16 l17 l19 n sl SH FI FL FR v st) (hc : l10.toInt = 152 ∨ l10.toInt = 153) : ((15 < l12.toInt ∨ (FI 121 29).toInt = 8) ∧ v = 8) ∨ (¬ (15 < l12.toInt ∨ (FI 121 29).toInt = 8) ∧ RX12_exec_736 K a1 a2 a3 l4 l6 l7 l8 l9 l10 l11 l12 l14 l16 l17 l19 n sl SH FI FL FR v st) := by
  have h : RX12_exec_709 K a1 a2 a3 l4 l6 l7 l8 l9 l10 l11 l12 l14 l16 l17 l19 n sl SH FI FL FR v st := by
    rcases h with ⟨-, h⟩ | ⟨hx, h⟩
    · exact h
    · rw [show ((152 : Int32)).toInt = 152 by decide] at hx
      rcases h with ⟨-, h⟩ | ⟨hy, -⟩
      · exact h
      · rw [show ((153 : Int32)).toInt = 153 by decide] at hy
        exact absurd hc (fun e => e.elim hx hy)
  unfold RX12_exec_709 at h
  rw [show ((15 : Int64)).toInt = 15 by decide, show ((8 : Int32)).toInt = 8 by decide] at h
  rcases h with ⟨hy, h⟩ | ⟨hy, h⟩
  · exact Or.inl ⟨Or.inl hy, fl h⟩
  · rcases h with ⟨hz, h⟩ | ⟨hz, h⟩
    · exact Or.inl ⟨Or.inr hz, fl h⟩
    · exact Or.inr ⟨fun w => w.elim hy hz, h⟩
theorem x736 (h : RX12_exec_736 K a1 a2 a3 l4 l6 l7 l8 l9 l10 l11 l12 l14 l16 l17 l19 n sl SH FI FL FR v st) : ((l10.toInt = 151 ∧ (FI 121 10).toInt = 0) ∧ v = 11) ∨ (¬ (l10.toInt = 151 ∧ (FI 121 10).toInt = 0) ∧ RX12_exec_751 K a1 a2 a3 l4 l6 l7 l8 l9 l10 l11 l12 l14 l16 l17 l19 n sl SH FI FL FR v st) := by
  rcases h with ⟨hx, h⟩ | ⟨hx, h⟩
  · rw [show ((151 : Int32)).toInt = 151 by decide] at hx
    rcases h with ⟨hy, h⟩ | ⟨hy, h⟩
    · exact Or.inl ⟨⟨hx, hy⟩, fl h⟩
    · exact Or.inr ⟨fun w => hy w.2, h⟩
  · rw [show ((151 : Int32)).toInt = 151 by decide] at hx
    exact Or.inr ⟨fun w => hx w.1, h⟩
theorem x751 (h : RX12_exec_751 K a1 a2 a3 l4 l6 l7 l8 l9 l10 l11 l12 l14 l16 l17 l19 n sl SH FI FL FR v st) : ((l10.toInt = 155 ∧ (FI 121 11).toInt = 0) ∧ v = 11) ∨ (¬ (l10.toInt = 155 ∧ (FI 121 11).toInt = 0) ∧ RX12_exec_766 K a1 a2 a3 l4 l6 l7 l8 l9 l10 l11 l12 l14 l16 l17 l19 n sl SH FI FL FR v st) := by
  rcases h with ⟨hx, h⟩ | ⟨hx, h⟩
  · rw [show ((155 : Int32)).toInt = 155 by decide] at hx
    rcases h with ⟨hy, h⟩ | ⟨hy, h⟩
    · exact Or.inl ⟨⟨hx, hy⟩, fl h⟩
    · exact Or.inr ⟨fun w => hy w.2, h⟩
  · rw [show ((155 : Int32)).toInt = 155 by decide] at hx
    exact Or.inr ⟨fun w => hx w.1, h⟩
theorem x766 (h : RX12_exec_766 K a1 a2 a3 l4 l6 l7 l8 l9 l10 l11 l12 l14 l16 l17 l19 n sl SH FI FL FR v st) : ((l10.toInt = 156 ∧ (FI 121 6).toInt = -1) ∧ v = 11) ∨ (¬ (l10.toInt = 156 ∧ (FI 121 6).toInt = -1) ∧ RX12_exec_782 K a1 a2 a3 l4 l6 l7 l8 l9 l10 l11 l12 l14 l16 l17 l19 n sl SH FI FL FR v st) := by
  rcases h with ⟨hx, h⟩ | ⟨hx, h⟩
  · rw [show ((156 : Int32)).toInt = 156 by decide] at hx
    rw [show ((-1 : Int32)).toInt = -1 by decide] at h
    rcases h with ⟨hy, h⟩ | ⟨hy, h⟩
    · exact Or.inl ⟨⟨hx, hy⟩, fl h⟩
    · exact Or.inr ⟨fun w => hy w.2, h⟩
  · rw [show ((156 : Int32)).toInt = 156 by decide] at hx
    exact Or.inr ⟨fun w => hx w.1, h⟩
theorem x782 (h : RX12_exec_782 K a1 a2 a3 l4 l6 l7 l8 l9 l10 l11 l12 l14 l16 l17 l19 n sl SH FI FL FR v st) (hc : l10.toInt ≠ 145) : RX12_exec_813 K a1 a2 a3 l4 l6 l7 l8 l9 l10 l11 l12 l14 l16 l17 l19 n sl SH FI FL FR v st := P_n h (by rw [show ((145 : Int32)).toInt = 145 by decide]; exact hc)
theorem x782b (h : RX12_exec_782 K a1 a2 a3 l4 l6 l7 l8 l9 l10 l11 l12 l14 l16 l17 l19 n sl SH FI FL FR v st) (hc : l10.toInt = 145) : ((l4.toInt = 1 ∨ (FI 121 5).toInt = -1) ∧ v = 11) ∨ (¬ (l4.toInt = 1 ∨ (FI 121 5).toInt = -1) ∧ RX12_exec_813 K a1 a2 a3 l4 l6 l7 l8 l9 l10 l11 l12 l14 l16 l17 l19 n sl SH FI FL FR v st) := by
  have h := P_p h (by rw [show ((145 : Int32)).toInt = 145 by decide]; exact hc)
  rw [show ((1 : Int32)).toInt = 1 by decide, show ((-1 : Int32)).toInt = -1 by decide] at h
  rcases h with ⟨hy, h⟩ | ⟨hy, h⟩
  · exact Or.inl ⟨Or.inl hy, fl h⟩
  · rcases h with ⟨hz, h⟩ | ⟨hz, h⟩
    · exact Or.inl ⟨Or.inr hz, fl h⟩
    · exact Or.inr ⟨fun w => w.elim hy hz, h⟩
theorem x_th {t a : Int64} : ((fX12_isThere t a SH FI FL FR).toInt = 0) ↔ (t.toInt < 0 ∨ ((4096 : Int64) - a).toInt < t.toInt) := by
  unfold fX12_isThere
  rw [show ((0 : Int64)).toInt = 0 by decide]
  by_cases h1 : t.toInt < 0
  · rw [if_pos h1]; exact ⟨fun _ => Or.inl h1, fun _ => by decide⟩
  · rw [if_neg h1]
    by_cases h2 : ((4096 : Int64) - a).toInt < t.toInt
    · rw [if_pos h2]; exact ⟨fun _ => Or.inr h2, fun _ => by decide⟩
    · rw [if_neg h2]; exact ⟨fun e => absurd e (by decide), fun e => absurd e (fun w => w.elim h1 h2)⟩
theorem x813 (h : RX12_exec_813 K a1 a2 a3 l4 l6 l7 l8 l9 l10 l11 l12 l14 l16 l17 l19 n sl SH FI FL FR v st) (hc : l10.toInt ≠ 145) : ((l10.toInt = 6 ∧ (l17.toInt < 0 ∨ 4088 < l17.toInt)) ∧ v = 5) ∨ (¬ (l10.toInt = 6 ∧ (l17.toInt < 0 ∨ 4088 < l17.toInt)) ∧ RX12_exec_917 K a1 a2 a3 l4 l6 l7 l8 l9 l10 l11 l12 l14 l16 l17 l19 n sl SH FI FL FR v st) := by
  have h := P_n h (by rw [show ((145 : Int32)).toInt = 145 by decide]; exact hc)
  have e : ((4096 : Int64) - (8 : Int64)).toInt = 4088 := by decide
  rw [x_th, e] at h
  rcases h with ⟨hx, h⟩ | ⟨hx, h⟩
  · rw [show ((6 : Int32)).toInt = 6 by decide] at hx
    rcases h with ⟨hy, h⟩ | ⟨hy, h⟩
    · exact Or.inl ⟨⟨hx, hy⟩, fl h⟩
    · exact Or.inr ⟨fun w => hy w.2, h⟩
  · rw [show ((6 : Int32)).toInt = 6 by decide] at hx
    exact Or.inr ⟨fun w => hx w.1, h⟩
theorem x917 (h : RX12_exec_917 K a1 a2 a3 l4 l6 l7 l8 l9 l10 l11 l12 l14 l16 l17 l19 n sl SH FI FL FR v st) : ((l10.toInt = 148 ∧ (l17.toInt < 0 ∨ ((4096 : Int64) - l12).toInt < l17.toInt)) ∧ v = 5) ∨ (¬ (l10.toInt = 148 ∧ (l17.toInt < 0 ∨ ((4096 : Int64) - l12).toInt < l17.toInt)) ∧ RX12_exec_944 K a1 a2 a3 l4 l6 l7 l8 l9 l10 l11 l12 l14 l16 l17 l19 n sl SH FI FL FR v st) := by
  unfold RX12_exec_917 at h
  rw [x_th] at h
  rcases h with ⟨hx, h⟩ | ⟨hx, h⟩
  · rw [show ((148 : Int32)).toInt = 148 by decide] at hx
    rcases h with ⟨hy, h⟩ | ⟨hy, h⟩
    · exact Or.inl ⟨⟨hx, hy⟩, fl h⟩
    · exact Or.inr ⟨fun w => hy w.2, h⟩
  · rw [show ((148 : Int32)).toInt = 148 by decide] at hx
    exact Or.inr ⟨fun w => hx w.1, h⟩
theorem x944 (h : RX12_exec_944 K a1 a2 a3 l4 l6 l7 l8 l9 l10 l11 l12 l14 l16 l17 l19 n sl SH FI FL FR v st) : (((l10.toInt = 27 ∨ l10.toInt = 29) ∧ l17.toInt = 0) ∧ v = 6) ∨ (¬ ((l10.toInt = 27 ∨ l10.toInt = 29) ∧ l17.toInt = 0) ∧ RX12_exec_974 K a1 a2 a3 l4 l6 l7 l8 l9 l10 l11 l12 l14 l16 l17 l19 n sl SH FI FL FR v st) := by
  have z : ∀ h : RX12_exec_958 K a1 a2 a3 l4 l6 l7 l8 l9 l10 l11 l12 l14 l16 l17 l19 n sl SH FI FL FR v st, (l17.toInt = 0 ∧ v = 6) ∨ (¬ l17.toInt = 0 ∧ RX12_exec_974 K a1 a2 a3 l4 l6 l7 l8 l9 l10 l11 l12 l14 l16 l17 l19 n sl SH FI FL FR v st) := by
    intro h
    unfold RX12_exec_958 at h
    rw [show ((0 : Int64)).toInt = 0 by decide] at h
    rcases h with ⟨hy, h⟩ | ⟨hy, h⟩
    · exact Or.inl ⟨hy, fl h⟩
    · exact Or.inr ⟨hy, h⟩
  rcases h with ⟨hx, h⟩ | ⟨hx, h⟩
  · rw [show ((27 : Int32)).toInt = 27 by decide] at hx
    rcases z h with ⟨q, e⟩ | ⟨q, e⟩
    · exact Or.inl ⟨⟨Or.inl hx, q⟩, e⟩
    · exact Or.inr ⟨fun w => q w.2, e⟩
  · rw [show ((27 : Int32)).toInt = 27 by decide] at hx
    rcases h with ⟨hy, h⟩ | ⟨hy, h⟩
    · rw [show ((29 : Int32)).toInt = 29 by decide] at hy
      rcases z h with ⟨q, e⟩ | ⟨q, e⟩
      · exact Or.inl ⟨⟨Or.inr hy, q⟩, e⟩
      · exact Or.inr ⟨fun w => q w.2, e⟩
    · rw [show ((29 : Int32)).toInt = 29 by decide] at hy
      exact Or.inr ⟨fun w => w.1.elim hx hy, h⟩
theorem x999 (h : RX12_exec_999 K a1 a2 a3 l4 l6 l7 l8 l9 l10 l11 l12 l14 l16 l17 l19 n sl SH FI FL FR v st) : ((((l11.toInt64) + l12).toInt < (l6.toInt64).toInt ∨ (l7.toInt64).toInt < ((l11.toInt64) + l12).toInt) ∧ v = 7) ∨ (¬ (((l11.toInt64) + l12).toInt < (l6.toInt64).toInt ∨ (l7.toInt64).toInt < ((l11.toInt64) + l12).toInt) ∧ RX12_exec_1039 K a1 a2 a3 l4 l6 l7 l8 l9 l10 l11 l12 l14 l16 l17 l19 (((l11.toInt64) + l12).toInt32) n sl SH FI FL FR v st) := by
  rcases h with ⟨hy, h⟩ | ⟨hy, h⟩
  · exact Or.inl ⟨Or.inl hy, fl h⟩
  · rcases h with ⟨hz, h⟩ | ⟨hz, h⟩
    · exact Or.inl ⟨Or.inr hz, fl h⟩
    · exact Or.inr ⟨fun w => w.elim hy hz, h⟩
theorem x974j (h : RX12_exec_974 K a1 a2 a3 l4 l6 l7 l8 l9 l10 l11 l12 l14 l16 l17 l19 n sl SH FI FL FR v st) (hc : l10.toInt = 47 ∨ (l10.toInt = 40 ∧ l17.toInt ≠ 0)) : RX12_exec_999 K a1 a2 a3 l4 l6 l7 l8 l9 l10 l11 l12 l14 l16 l17 l19 n sl SH FI FL FR v st := by
  rcases h with ⟨-, h⟩ | ⟨hx, h⟩
  · exact h
  · rw [show ((47 : Int32)).toInt = 47 by decide] at hx
    rcases h with ⟨-, h⟩ | ⟨hy, h⟩
    · exact P_n h (by rw [show ((0 : Int64)).toInt = 0 by decide]; exact (hc.resolve_left hx).2)
    · rw [show ((40 : Int32)).toInt = 40 by decide] at hy
      exact absurd (hc.resolve_left hx).1 hy
theorem x974 (h : RX12_exec_974 K a1 a2 a3 l4 l6 l7 l8 l9 l10 l11 l12 l14 l16 l17 l19 n sl SH FI FL FR v st) (hc : ¬ (l10.toInt = 47 ∨ (l10.toInt = 40 ∧ l17.toInt ≠ 0))) : RX12_exec_1039 K a1 a2 a3 l4 l6 l7 l8 l9 l10 l11 l12 l14 l16 l17 l19 l11 n sl SH FI FL FR v st := by
  have h := P_n h (by rw [show ((47 : Int32)).toInt = 47 by decide]; exact fun e => hc (Or.inl e))
  rcases h with ⟨hy, h⟩ | ⟨hy, h⟩
  · rw [show ((40 : Int32)).toInt = 40 by decide] at hy
    exact P_p h (by rw [show ((0 : Int64)).toInt = 0 by decide]; exact Classical.byContradiction (fun e => hc (Or.inr ⟨hy, e⟩)))
  · exact h
theorem x1039 (h : RX12_exec_1039 K a1 a2 a3 l4 l6 l7 l8 l9 l10 l11 l12 l14 l16 l17 l19 l21 n sl SH FI FL FR v st) : (((fX12_pushes l10 SH FI FL FR).toInt ≠ 0 ∧ l16.toInt = 128) ∧ v = 4) ∨ (¬ ((fX12_pushes l10 SH FI FL FR).toInt ≠ 0 ∧ l16.toInt = 128) ∧ RX12_exec_1064 K a1 a2 a3 l4 l6 l7 l8 l9 l10 l11 l12 l14 l16 l17 l19 l21 n sl SH FI FL FR v st) := by
  unfold RX12_exec_1039 at h
  rw [show ((128 : Int32)).toInt = 128 by decide] at h
  rcases h with ⟨hx, h⟩ | ⟨hx, h⟩
  · exact Or.inr ⟨fun w => w.1 hx, h⟩
  · rcases h with ⟨hy, h⟩ | ⟨hy, h⟩
    · exact Or.inl ⟨⟨hx, hy⟩, fl h⟩
    · exact Or.inr ⟨fun w => hy w.2, h⟩
theorem x1064c (h : RX12_exec_1064 K a1 a2 a3 l4 l6 l7 l8 l9 l10 l11 l12 l14 l16 l17 l19 l21 n sl SH FI FL FR v st) (hc : l10.toInt = 152 ∨ l10.toInt = 153) : RX12_exec_1080 K a1 a2 a3 l4 l6 l7 l9 l11 l12 n sl SH FI FL FR v st := by
  rcases h with ⟨-, h⟩ | ⟨hx, h⟩
  · exact h
  · rw [show ((152 : Int32)).toInt = 152 by decide] at hx
    exact P_p h (by rw [show ((153 : Int32)).toInt = 153 by decide]; exact hc.resolve_left hx)
theorem x1064a (h : RX12_exec_1064 K a1 a2 a3 l4 l6 l7 l8 l9 l10 l11 l12 l14 l16 l17 l19 l21 n sl SH FI FL FR v st) (h1 : l10.toInt ≠ 152) (h2 : l10.toInt ≠ 153) (hp : (fX12_pushes l10 SH FI FL FR).toInt = 0) : ∃ u n4 sl4 SH4 FI4 FL4 FR4, RX12_acts l4 l10 l12 l14 n sl SH FI FL FR u (n4, sl4, SH4, FI4, FL4, FR4) ∧ K l4 l21 l6 l7 n4 sl4 SH4 FI4 FL4 FR4 v st := P_p (P_n (P_n h (by rw [show ((152 : Int32)).toInt = 152 by decide]; exact h1)) (by rw [show ((153 : Int32)).toInt = 153 by decide]; exact h2)) hp
theorem x1064p (h : RX12_exec_1064 K a1 a2 a3 l4 l6 l7 l8 l9 l10 l11 l12 l14 l16 l17 l19 l21 n sl SH FI FL FR v st) (h1 : l10.toInt ≠ 152) (h2 : l10.toInt ≠ 153) (hp : (fX12_pushes l10 SH FI FL FR).toInt ≠ 0) : ∃ u n4 sl4 SH4 FI4 FL4 FR4, RX12_pushed l4 (fX12_pushes_ l10 l12 l14 l17 l19 (l8 + l16) SH FI FL FR) n sl SH FI FL FR u (n4, sl4, SH4, FI4, FL4, FR4) ∧ K l4 l21 l6 l7 n4 sl4 SH4 FI4 FL4 FR4 v st := P_n (P_n (P_n h (by rw [show ((152 : Int32)).toInt = 152 by decide]; exact h1)) (by rw [show ((153 : Int32)).toInt = 153 by decide]; exact h2)) hp
end XL
end
section
/-! THE REFERENCE'S RUN: what its cells tell of a run's state. -/
def ms_ok (H : ms_H) : Prop := (H.1 = 0 ∧ H = ms_0) ∨ (H.1 = 1 ∧ H.2.2 = []) ∨ (H.1 = 2 ∧ H.2.2 = [] ∧ 0 ≤ H.2.1.toInt ∧ H.2.1.toInt ≤ 31) ∨ (H.1 = 3 ∧ H.2.2 = []) ∨ (H.1 = 4 ∧ H.2.1.toInt = H.2.2.length)
theorem ms_ok0 {H : ms_H} (h : ms_ok H) (e : H.1 = 0) : H = ms_0 := by
  rcases h with h | h | h | h | h
  · exact h.2
  all_goals (exfalso; have := h.1; omega)
/-- a thing in the rows K (kind), V (number), Z (size) -/
def rt (FI : Nat → Nat → Int32) (FL : Nat → Nat → Int64) (SH : Nat → Nat × Nat) (K V Z i : Nat) (H : ms_H) : Prop := (FI K i).toInt = H.1 ∧ ms_ok H ∧ ((H.1 = 1 ∨ H.1 = 2 ∨ H.1 = 3) → FL V i = H.2.1) ∧ (H.1 = 4 → ∃ A : Nat, (FL V i).toInt = A ∧ (FI Z i).toInt = H.2.2.length ∧ bk FI SH 124 A H.2.2)
def rq (FI : Nat → Nat → Int32) (FL : Nat → Nat → Int64) (SH : Nat → Nat × Nat) (j : Nat) (q : ms_P) : Prop := rt FI FL SH 130 131 134 j q.1 ∧ (FI 132 j).toInt = q.2.1 ∧ (FI 133 j).toInt = q.2.2 ∧ 0 ≤ q.2.1 ∧ q.2.1 ≤ 4096 ∧ 0 ≤ q.2.2 ∧ q.2.2 ≤ 4096
def rv (FI : Nat → Nat → Int32) (FL : Nat → Nat → Int64) (SH : Nat → Nat × Nat) (l : Nat) (s : ms_S) : Prop := (FI 128 l).toInt = s.1.length ∧ s.1.length ≤ 128 ∧ lv (fun i x => FL 127 (128 * l + i) = x) s.1 ∧ rt FI FL SH 136 137 138 l s.2.1 ∧ (FI 129 l).toInt = s.2.2.length ∧ s.2.2.length ≤ 16 ∧ (FI 135 l).toInt = ms_tb s.2.2 ∧ 0 ≤ ms_tb s.2.2 ∧ ms_tb s.2.2 ≤ 4096 ∧ lv (fun i q => rq FI FL SH (16 * l + i) q) s.2.2
/-- a level's rows have stayed -/
def lf (l : Nat) (FI : Nat → Nat → Int32) (FL : Nat → Nat → Int64) (F2 : Nat → Nat → Int32) (L2 : Nat → Nat → Int64) : Prop := F2 124 = FI 124 ∧ (∀ r, (r = 128 ∨ r = 129 ∨ r = 135 ∨ r = 136 ∨ r = 138) → F2 r l = FI r l) ∧ (∀ r i, (r = 130 ∨ r = 132 ∨ r = 133 ∨ r = 134) → 16 * l ≤ i → i < 16 * l + 16 → F2 r i = FI r i) ∧ L2 137 l = FL 137 l ∧ (∀ i, 128 * l ≤ i → i < 128 * l + 128 → L2 127 i = FL 127 i) ∧ (∀ i, 16 * l ≤ i → i < 16 * l + 16 → L2 131 i = FL 131 i)
section RV
variable {FI F2 F3 : Nat → Nat → Int32} {FL L2 L3 : Nat → Nat → Int64} {SH : Nat → Nat × Nat} {l o : Nat} {s : ms_S} {E : ms_E}
theorem rt_fr {K V Z i : Nat} {H : ms_H} (h : rt FI FL SH K V Z i H) (e0 : F2 124 = FI 124) (e1 : F2 K i = FI K i) (e2 : L2 V i = FL V i) (e3 : F2 Z i = FI Z i) : rt F2 L2 SH K V Z i H := by
  unfold rt
  rw [e1, e2, e3]
  refine ⟨h.1, h.2.1, h.2.2.1, fun h4 => ?_⟩
  obtain ⟨A, a1, a2, a3⟩ := h.2.2.2 h4
  exact ⟨A, a1, a2, bk_fr a3 e0⟩
theorem rq_fr {j : Nat} {q : ms_P} (h : rq FI FL SH j q) (e0 : F2 124 = FI 124) (e1 : ∀ r, (r = 130 ∨ r = 132 ∨ r = 133 ∨ r = 134) → F2 r j = FI r j) (e2 : L2 131 j = FL 131 j) : rq F2 L2 SH j q := by
  unfold rq
  rw [e1 132 (by omega), e1 133 (by omega)]
  exact ⟨rt_fr h.1 e0 (e1 130 (by omega)) e2 (e1 134 (by omega)), h.2⟩
theorem rv_fr (h : rv FI FL SH l s) (e : lf l FI FL F2 L2) : rv F2 L2 SH l s := by
  obtain ⟨h1, h2, h3, h4, h5, h6, h7, h8, h9, h10⟩ := h
  obtain ⟨e1, e2, e3, e4, e5, e6⟩ := e
  refine ⟨by rw [e2 128 (by omega)]; exact h1, h2, lv_mono (fun i x hi _ hx => ?_) h3, rt_fr h4 e1 (e2 136 (by omega)) e4 (e2 138 (by omega)), by rw [e2 129 (by omega)]; exact h5, h6, by rw [e2 135 (by omega)]; exact h7, h8, h9, lv_mono (fun i x hi _ hx => ?_) h10⟩
  · rw [e5 (128 * l + i) (by omega) (by omega)]; exact hx
  · exact rq_fr hx e1 (fun r hr => e3 r _ hr (by omega) (by omega)) (e6 _ (by omega) (by omega))
theorem lf_rf : lf l FI FL FI FL := ⟨rfl, fun _ _ => rfl, fun _ _ _ _ _ => rfl, rfl, fun _ _ _ => rfl, fun _ _ _ => rfl⟩
theorem lf_tr (h : lf l FI FL F2 L2) (g : lf l F2 L2 F3 L3) : lf l FI FL F3 L3 := ⟨g.1.trans h.1, fun r hr => (g.2.1 r hr).trans (h.2.1 r hr), fun r i hr h1 h2 => (g.2.2.1 r i hr h1 h2).trans (h.2.2.1 r i hr h1 h2), g.2.2.2.1.trans h.2.2.2.1, fun i h1 h2 => (g.2.2.2.2.1 i h1 h2).trans (h.2.2.2.2.1 i h1 h2), fun i h1 h2 => (g.2.2.2.2.2 i h1 h2).trans (h.2.2.2.2.2 i h1 h2)⟩
/-- what stays over the operations of one level, while o are open -/
def gz (l o : Nat) (FI : Nat → Nat → Int32) (FL : Nat → Nat → Int64) (F2 : Nat → Nat → Int32) (L2 : Nat → Nat → Int64) : Prop :=
  (∀ c, (c < 121 ∨ (121 < c ∧ c < 127) ∨ 142 < c) → F2 c = FI c ∧ L2 c = FL c) ∧
  (∀ k, (k < 29 ∨ 44 < k) → F2 121 k = FI 121 k ∧ L2 121 k = FL 121 k) ∧
  F2 121 29 = FI 121 29 ∧
  (∀ i, i < o → F2 139 i = FI 139 i ∧ F2 140 i = FI 140 i ∧ F2 141 i = FI 141 i) ∧
  (∀ i, i ≤ l → F2 142 i = FI 142 i) ∧
  (l = 1 → lf 0 FI FL F2 L2 ∧ F2 121 40 = FI 121 40 ∧ F2 121 41 = FI 121 41 ∧ F2 121 42 = FI 121 42 ∧ L2 121 44 = FL 121 44)
theorem gz_rf : gz l o FI FL FI FL := ⟨fun _ _ => ⟨rfl, rfl⟩, fun _ _ => ⟨rfl, rfl⟩, rfl, fun _ _ => ⟨rfl, rfl, rfl⟩, fun _ _ => rfl, fun _ => ⟨lf_rf, rfl, rfl, rfl, rfl⟩⟩
theorem gz_tr (h : gz l o FI FL F2 L2) (g : gz l o F2 L2 F3 L3) : gz l o FI FL F3 L3 := by
  obtain ⟨a1, a2, a3, a4, a5, a6⟩ := h
  obtain ⟨b1, b2, b3, b4, b5, b6⟩ := g
  refine ⟨fun c hc => ⟨(b1 c hc).1.trans (a1 c hc).1, (b1 c hc).2.trans (a1 c hc).2⟩, fun k hk => ⟨(b2 k hk).1.trans (a2 k hk).1, (b2 k hk).2.trans (a2 k hk).2⟩, b3.trans a3, fun i hi => ⟨(b4 i hi).1.trans (a4 i hi).1, (b4 i hi).2.1.trans (a4 i hi).2.1, (b4 i hi).2.2.trans (a4 i hi).2.2⟩, fun i hi => (b5 i hi).trans (a5 i hi), fun h1 => ?_⟩
  obtain ⟨p1, p2, p3, p4, p5⟩ := a6 h1
  obtain ⟨q1, q2, q3, q4, q5⟩ := b6 h1
  exact ⟨lf_tr p1 q1, q2.trans p2, q3.trans p3, q4.trans p4, q5.trans p5⟩
theorem gz_le {o2 : Nat} (h : gz l o2 FI FL F2 L2) (ho : o ≤ o2) : gz l o FI FL F2 L2 := ⟨h.1, h.2.1, h.2.2.1, fun i hi => h.2.2.2.1 i (by omega), h.2.2.2.2⟩
def wi (l c k : Nat) : Prop := (c = 121 ∧ 30 ≤ k ∧ k ≤ 38) ∨ ((c = 128 ∨ c = 129 ∨ c = 135 ∨ c = 136 ∨ c = 138) ∧ k = l) ∨ ((c = 130 ∨ c = 132 ∨ c = 133 ∨ c = 134) ∧ 16 * l ≤ k ∧ k < 16 * l + 16)
def wlz (l c k : Nat) : Prop := (c = 121 ∧ (k = 35 ∨ k = 36 ∨ k = 39)) ∨ (c = 127 ∧ 128 * l ≤ k ∧ k < 128 * l + 128) ∨ (c = 137 ∧ k = l) ∨ (c = 131 ∧ 16 * l ≤ k ∧ k < 16 * l + 16)
theorem gz_i {c k : Nat} {x : Int32} (h : gz l o FI FL F2 L2) (w : wi l c k) : gz l o FI FL (h_up F2 c k x) L2 := by
  unfold wi at w
  obtain ⟨a1, a2, a3, a4, a5, a6⟩ := h
  refine ⟨fun c2 hc => ⟨by rw [h_up_nc (by omega)]; exact (a1 c2 hc).1, (a1 c2 hc).2⟩, fun k2 hk => ⟨by rw [h_up_x (by omega)]; exact (a2 k2 hk).1, (a2 k2 hk).2⟩, by rw [h_up_x (by omega)]; exact a3, fun i hi => ⟨by rw [h_up_x (by omega)]; exact (a4 i hi).1, by rw [h_up_x (by omega)]; exact (a4 i hi).2.1, by rw [h_up_x (by omega)]; exact (a4 i hi).2.2⟩, fun i hi => by rw [h_up_x (by omega)]; exact a5 i hi, fun h1 => ?_⟩
  obtain ⟨⟨p1, p2, p3, p4, p5, p6⟩, q2, q3, q4, q5⟩ := a6 h1
  subst h1
  exact ⟨⟨by rw [h_up_nc (by omega)]; exact p1, fun r hr => by rw [h_up_x (by omega)]; exact p2 r hr, fun r i hr h1 h2 => by rw [h_up_x (by omega)]; exact p3 r i hr h1 h2, p4, p5, p6⟩, by rw [h_up_x (by omega)]; exact q2, by rw [h_up_x (by omega)]; exact q3, by rw [h_up_x (by omega)]; exact q4, q5⟩
theorem gz_l {c k : Nat} {x : Int64} (h : gz l o FI FL F2 L2) (w : wlz l c k) : gz l o FI FL F2 (h_up L2 c k x) := by
  unfold wlz at w
  obtain ⟨a1, a2, a3, a4, a5, a6⟩ := h
  refine ⟨fun c2 hc => ⟨(a1 c2 hc).1, by rw [h_up_nc (by omega)]; exact (a1 c2 hc).2⟩, fun k2 hk => ⟨(a2 k2 hk).1, by rw [h_up_x (by omega)]; exact (a2 k2 hk).2⟩, a3, a4, a5, fun h1 => ?_⟩
  obtain ⟨⟨p1, p2, p3, p4, p5, p6⟩, q2, q3, q4, q5⟩ := a6 h1
  subst h1
  exact ⟨⟨p1, p2, p3, by rw [h_up_x (by omega)]; exact p4, fun i h1 h2 => by rw [h_up_x (by omega)]; exact p5 i h1 h2, fun i h1 h2 => by rw [h_up_x (by omega)]; exact p6 i h1 h2⟩, q2, q3, q4, by rw [h_up_x (by omega)]; exact q5⟩
/-- fields of the reference do not matter to a level -/
theorem lf_fk {K K2 : List Nat} (h : fk K FI F2) (h2 : fk K2 FL L2) : lf l FI FL F2 L2 := ⟨fk_row h (by decide), fun r hr => by rw [fk_row h (by omega)], fun r i hr _ _ => by rw [fk_row h (by omega)], by rw [fk_row h2 (by decide)], fun i _ _ => by rw [fk_row h2 (by decide)], fun i _ _ => by rw [fk_row h2 (by decide)]⟩
theorem gz_fk (h : fk [37, 38] FI F2) (h2 : fk [35, 36] FL L2) : gz l o FI FL F2 L2 := ⟨fun c hc => ⟨fk_row h (by omega), fk_row h2 (by omega)⟩, fun k hk => ⟨fk_at h (by simp; omega), fk_at h2 (by simp; omega)⟩, fk_at h (by decide), fun i _ => ⟨by rw [fk_row h (by decide)], by rw [fk_row h (by decide)], by rw [fk_row h (by decide)]⟩, fun i _ => by rw [fk_row h (by decide)], fun _ => ⟨lf_fk h h2, fk_at h (by decide), fk_at h (by decide), fk_at h (by decide), fk_at h2 (by decide)⟩⟩
/-- what operations ask for, in the reference's cells -/
def rE (FI : Nat → Nat → Int32) (FL : Nat → Nat → Int64) (SH : Nat → Nat × Nat) (E : ms_E) : Prop := (∀ i, i < 32 → FL 122 i = ms_rg E i) ∧ (∀ i, i < 4096 → FI 123 i = ms_mm E i) ∧ (∀ k, k < 16 → (FI 125 k).toInt = (ms_ex E k).length ∧ (ms_ex E k).length ≤ 600 ∧ bk FI SH 124 (600 * k) (ms_ex E k)) ∧ ((FI 121 5).toInt = ms_fr E ∧ -1 ≤ ms_fr E ∧ ms_fr E ≤ 15) ∧ ((FI 121 6).toInt = ms_cr E ∧ -1 ≤ ms_cr E ∧ ms_cr E ≤ 31) ∧ FL 121 7 = ms_co E ∧ (((FI 121 10).toInt = 0 ∧ ms_ob E = none) ∨ ((FI 121 10).toInt ≠ 0 ∧ ms_ob E = some (FL 121 8))) ∧ (((FI 121 11).toInt = 0 ∧ ms_tl E = none) ∨ ((FI 121 11).toInt ≠ 0 ∧ ms_tl E = some (FL 121 9)))
theorem rE_fr (h : rE FI FL SH E) (e1 : F2 123 = FI 123) (e2 : F2 124 = FI 124) (e3 : F2 125 = FI 125) (e4 : ∀ k, k < 29 → F2 121 k = FI 121 k) (e5 : ∀ k, k < 29 → L2 121 k = FL 121 k) (e6 : L2 122 = FL 122) : rE F2 L2 SH E := by
  obtain ⟨h1, h2, h3, h4, h5, h6, h7, h8⟩ := h
  refine ⟨by rw [e6]; exact h1, by rw [e1]; exact h2, fun k hk => ?_, by rw [e4 5 (by decide)]; exact h4, by rw [e4 6 (by decide)]; exact h5, by rw [e5 7 (by decide)]; exact h6, by rw [e4 10 (by decide), e5 8 (by decide)]; exact h7, by rw [e4 11 (by decide), e5 9 (by decide)]; exact h8⟩
  rw [e3]
  exact ⟨(h3 k hk).1, (h3 k hk).2.1, bk_fr (h3 k hk).2.2 e2⟩
theorem rE_gf (h : rE FI FL SH E) (g : gz l o FI FL F2 L2) : rE F2 L2 SH E := rE_fr h (g.1 123 (by omega)).1 (g.1 124 (by omega)).1 (g.1 125 (by omega)).1 (fun k hk => (g.2.1 k (Or.inl hk)).1) (fun k hk => (g.2.1 k (Or.inl hk)).2) (g.1 122 (by omega)).2
/-- the stack alone has changed -/
theorem rv_st {S : List Int64} (h : rv FI FL SH l s) (e1 : ∀ r, r ≠ 128 → r ≠ 121 → F2 r = FI r) (e2 : ∀ r, r ≠ 127 → r ≠ 121 → L2 r = FL r) (e3 : (F2 128 l).toInt = S.length) (e4 : S.length ≤ 128) (e5 : lv (fun i x => L2 127 (128 * l + i) = x) S) : rv F2 L2 SH l (S, s.2) := by
  obtain ⟨h1, h2, h3, h4, h5, h6, h7, h8, h9, h10⟩ := h
  refine ⟨e3, e4, e5, rt_fr h4 (e1 124 (by decide) (by decide)) (by rw [e1 136 (by decide) (by decide)]) (by rw [e2 137 (by decide) (by decide)]) (by rw [e1 138 (by decide) (by decide)]), by rw [e1 129 (by decide) (by decide)]; exact h5, h6, by rw [e1 135 (by decide) (by decide)]; exact h7, h8, h9, lv_mono (fun i x hi _ hx => ?_) h10⟩
  exact rq_fr hx (e1 124 (by decide) (by decide)) (fun r hr => by rw [e1 r (by omega) (by omega)]) (by rw [e2 131 (by decide) (by decide)])
/-- the hold alone has changed -/
theorem rv_hd {H : ms_H} (h : rv FI FL SH l s) (e1 : ∀ r, r ≠ 136 → r ≠ 138 → F2 r = FI r) (e2 : ∀ r, r ≠ 137 → L2 r = FL r) (e3 : rt F2 L2 SH 136 137 138 l H) : rv F2 L2 SH l (s.1, H, s.2.2) := by
  obtain ⟨h1, h2, h3, h4, h5, h6, h7, h8, h9, h10⟩ := h
  refine ⟨by rw [e1 128 (by decide) (by decide)]; exact h1, h2, by rw [e2 127 (by decide)]; exact h3, e3, by rw [e1 129 (by decide) (by decide)]; exact h5, h6, by rw [e1 135 (by decide) (by decide)]; exact h7, h8, h9, lv_mono (fun i x hi _ hx => ?_) h10⟩
  exact rq_fr hx (e1 124 (by decide) (by decide)) (fun r hr => by rw [e1 r (by omega) (by omega)]) (by rw [e2 131 (by decide)])
theorem lv_up {S : List Int64} {B j r : Nat} {y : Int64} (h : lv (fun i x => FL r (B + i) = x) S) (hj : S.length ≤ j) : lv (fun i x => h_up FL r (B + j) y r (B + i) = x) S := lv_mono (fun i x hi _ hx => by rw [h_up_ne (by omega)]; exact hx) h
end RV
end
section
/-! CODES: what ms_x says of each; what the reference asks of them. -/
theorem mx_48 {E : ms_E} {c : Int} {a b : Int64} {bl : List Int32} {S : List Int64} {H : ms_H} (h : 48 ≤ c ∧ c ≤ 79) : ms_x E c a b bl S H = ms_ps (Int64.ofInt (c - 48)) S H := by
  unfold ms_x
  rw [if_pos (by omega)]
theorem mx_80 {E : ms_E} {c : Int} {a b : Int64} {bl : List Int32} {S : List Int64} {H : ms_H} (h : 80 ≤ c ∧ c ≤ 111) : ms_x E c a b bl S H = .inr (S, (2, Int64.ofInt (c - 80), [])) := by
  unfold ms_x
  rw [if_neg (by omega), if_pos (by omega)]
theorem mx_112 {E : ms_E} {c : Int} {a b : Int64} {bl : List Int32} {S : List Int64} {H : ms_H} (h : 112 ≤ c ∧ c ≤ 143) : ms_x E c a b bl S H = ms_ps (ms_rg E (c - 112).toNat + a) S H := by
  unfold ms_x
  rw [if_neg (by omega), if_neg (by omega), if_pos (by omega)]
theorem mx_3 {E : ms_E} {c : Int} {a b : Int64} {bl : List Int32} {S : List Int64} {H : ms_H} (h : c = 3 ∨ (8 ≤ c ∧ c ≤ 17)) : ms_x E c a b bl S H = ms_ps a S H := by
  unfold ms_x
  rw [if_neg (by omega), if_neg (by omega), if_neg (by omega), if_pos (by omega)]
theorem mx_144 {E : ms_E} {c : Int} {a b : Int64} {bl : List Int32} {S : List Int64} {H : ms_H} (h : c = 144) : ms_x E c a b bl S H = .inr (S, (2, a, [])) := by
  unfold ms_x
  rw [if_neg (by omega), if_neg (by omega), if_neg (by omega), if_neg (by omega), if_pos (by omega)]
theorem mx_146 {E : ms_E} {c : Int} {a b : Int64} {bl : List Int32} {S : List Int64} {H : ms_H} (h : c = 146) : ms_x E c a b bl S H = ms_ps (ms_rg E a.toInt.toNat + b) S H := by
  unfold ms_x
  rw [if_neg (by omega), if_neg (by omega), if_neg (by omega), if_neg (by omega), if_neg (by omega), if_pos (by omega)]
theorem mx_150 {E : ms_E} {c : Int} {a b : Int64} {bl : List Int32} {S : List Int64} {H : ms_H} (h : c = 150) : ms_x E c a b bl S H = .inr (S, H) := by
  unfold ms_x
  rw [if_neg (by omega), if_neg (by omega), if_neg (by omega), if_neg (by omega), if_neg (by omega), if_neg (by omega), if_pos (by omega)]
theorem mx_151 {E : ms_E} {c : Int} {a b : Int64} {bl : List Int32} {S : List Int64} {H : ms_H} (h : c = 151) : ms_x E c a b bl S H = (match ms_ob E with | none => .inl 11 | some v => ms_ps v S H) := by
  unfold ms_x
  rw [if_neg (by omega), if_neg (by omega), if_neg (by omega), if_neg (by omega), if_neg (by omega), if_neg (by omega), if_neg (by omega), if_pos h]
  cases ms_ob E <;> rfl
theorem mx_156 {E : ms_E} {c : Int} {a b : Int64} {bl : List Int32} {S : List Int64} {H : ms_H} (h : c = 156) : ms_x E c a b bl S H = (if ms_cr E = -1 then .inl 11 else ms_ps (ms_rg E (ms_cr E).toNat + ms_co E) S H) := by
  unfold ms_x
  rw [if_neg (by omega), if_neg (by omega), if_neg (by omega), if_neg (by omega), if_neg (by omega), if_neg (by omega), if_neg (by omega), if_neg (by omega), if_pos (by omega)]
theorem mx_158 {E : ms_E} {c : Int} {a b : Int64} {bl : List Int32} {S : List Int64} {H : ms_H} (h : c = 158) : ms_x E c a b bl S H = .inr (S, (4, a, bl)) := by
  unfold ms_x
  rw [if_neg (by omega), if_neg (by omega), if_neg (by omega), if_neg (by omega), if_neg (by omega), if_neg (by omega), if_neg (by omega), if_neg (by omega), if_neg (by omega), if_pos (by omega)]
theorem mx_6 {E : ms_E} {c : Int} {a b t : Int64} {bl : List Int32} {R : List Int64} {H : ms_H} (h : c = 6) : ms_x E c a b bl (t :: R) H = (if t.toInt < 0 ∨ 4088 < t.toInt then .inl 5 else .inr (ms_rd E t.toInt.toNat 8 :: R, H)) := by
  unfold ms_x
  rw [if_neg (by omega), if_neg (by omega), if_neg (by omega), if_neg (by omega), if_neg (by omega), if_neg (by omega), if_neg (by omega), if_neg (by omega), if_neg (by omega), if_neg (by omega)]
  dsimp only
  rw [if_pos h]
theorem mx_148 {E : ms_E} {c : Int} {a b t : Int64} {bl : List Int32} {R : List Int64} {H : ms_H} (h : c = 148) : ms_x E c a b bl (t :: R) H = (if t.toInt < 0 ∨ 4096 - a.toInt < t.toInt then .inl 5 else .inr (ms_rd E t.toInt.toNat a.toInt.toNat :: R, H)) := by
  unfold ms_x
  rw [if_neg (by omega), if_neg (by omega), if_neg (by omega), if_neg (by omega), if_neg (by omega), if_neg (by omega), if_neg (by omega), if_neg (by omega), if_neg (by omega), if_neg (by omega)]
  dsimp only
  rw [if_neg (by omega), if_pos h]
theorem mx_18 {E : ms_E} {c : Int} {a b t : Int64} {bl : List Int32} {R : List Int64} {H : ms_H} (h : c = 18) : ms_x E c a b bl (t :: R) H = ms_ps t (t :: R) H := by
  unfold ms_x
  rw [if_neg (by omega), if_neg (by omega), if_neg (by omega), if_neg (by omega), if_neg (by omega), if_neg (by omega), if_neg (by omega), if_neg (by omega), if_neg (by omega), if_neg (by omega)]
  dsimp only
  rw [if_neg (by omega), if_neg (by omega), if_pos h]
theorem mx_19 {E : ms_E} {c : Int} {a b t : Int64} {bl : List Int32} {R : List Int64} {H : ms_H} (h : c = 19) : ms_x E c a b bl (t :: R) H = .inr (R, H) := by
  unfold ms_x
  rw [if_neg (by omega), if_neg (by omega), if_neg (by omega), if_neg (by omega), if_neg (by omega), if_neg (by omega), if_neg (by omega), if_neg (by omega), if_neg (by omega), if_neg (by omega)]
  dsimp only
  rw [if_neg (by omega), if_neg (by omega), if_neg (by omega), if_pos h]
theorem mx_21 {E : ms_E} {c : Int} {a b t : Int64} {bl : List Int32} {R : List Int64} {H : ms_H} (h : c = 21) : ms_x E c a b bl (t :: R) H = ms_ps ((t :: R).getD a.toInt.toNat 0) (t :: R) H := by
  unfold ms_x
  rw [if_neg (by omega), if_neg (by omega), if_neg (by omega), if_neg (by omega), if_neg (by omega), if_neg (by omega), if_neg (by omega), if_neg (by omega), if_neg (by omega), if_neg (by omega)]
  dsimp only
  rw [if_neg (by omega), if_neg (by omega), if_neg (by omega), if_neg (by omega), if_pos h]
theorem mx_25 {E : ms_E} {c : Int} {a b t : Int64} {bl : List Int32} {R : List Int64} {H : ms_H} (h : c = 25) : ms_x E c a b bl (t :: R) H = .inr ((if t.toInt < 0 then -t else t) :: R, H) := by
  unfold ms_x
  rw [if_neg (by omega), if_neg (by omega), if_neg (by omega), if_neg (by omega), if_neg (by omega), if_neg (by omega), if_neg (by omega), if_neg (by omega), if_neg (by omega), if_neg (by omega)]
  dsimp only
  rw [if_neg (by omega), if_neg (by omega), if_neg (by omega), if_neg (by omega), if_neg (by omega), if_pos h]
theorem mx_31 {E : ms_E} {c : Int} {a b t : Int64} {bl : List Int32} {R : List Int64} {H : ms_H} (h : c = 31) : ms_x E c a b bl (t :: R) H = .inr (-t :: R, H) := by
  unfold ms_x
  rw [if_neg (by omega), if_neg (by omega), if_neg (by omega), if_neg (by omega), if_neg (by omega), if_neg (by omega), if_neg (by omega), if_neg (by omega), if_neg (by omega), if_neg (by omega)]
  dsimp only
  rw [if_neg (by omega), if_neg (by omega), if_neg (by omega), if_neg (by omega), if_neg (by omega), if_neg (by omega), if_pos h]
theorem mx_32 {E : ms_E} {c : Int} {a b t : Int64} {bl : List Int32} {R : List Int64} {H : ms_H} (h : c = 32) : ms_x E c a b bl (t :: R) H = .inr ((t ^^^ (-1 : Int64)) :: R, H) := by
  unfold ms_x
  rw [if_neg (by omega), if_neg (by omega), if_neg (by omega), if_neg (by omega), if_neg (by omega), if_neg (by omega), if_neg (by omega), if_neg (by omega), if_neg (by omega), if_neg (by omega)]
  dsimp only
  rw [if_neg (by omega), if_neg (by omega), if_neg (by omega), if_neg (by omega), if_neg (by omega), if_neg (by omega), if_neg (by omega), if_pos h]
theorem mx_35 {E : ms_E} {c : Int} {a b t : Int64} {bl : List Int32} {R : List Int64} {H : ms_H} (h : c = 35) : ms_x E c a b bl (t :: R) H = .inr ((t + a) :: R, H) := by
  unfold ms_x
  rw [if_neg (by omega), if_neg (by omega), if_neg (by omega), if_neg (by omega), if_neg (by omega), if_neg (by omega), if_neg (by omega), if_neg (by omega), if_neg (by omega), if_neg (by omega)]
  dsimp only
  rw [if_neg (by omega), if_neg (by omega), if_neg (by omega), if_neg (by omega), if_neg (by omega), if_neg (by omega), if_neg (by omega), if_neg (by omega), if_pos h]
theorem mx_155 {E : ms_E} {c : Int} {a b t : Int64} {bl : List Int32} {R : List Int64} {H : ms_H} (h : c = 155) : ms_x E c a b bl (t :: R) H = (match ms_tl E with | none => .inl 11 | some v => .inr ((v + t) :: R, H)) := by
  unfold ms_x
  rw [if_neg (by omega), if_neg (by omega), if_neg (by omega), if_neg (by omega), if_neg (by omega), if_neg (by omega), if_neg (by omega), if_neg (by omega), if_neg (by omega), if_neg (by omega)]
  dsimp only
  rw [if_neg (by omega), if_neg (by omega), if_neg (by omega), if_neg (by omega), if_neg (by omega), if_neg (by omega), if_neg (by omega), if_neg (by omega), if_neg (by omega), if_pos h]
  cases ms_tl E <;> rfl
theorem mx_159 {E : ms_E} {c : Int} {a b t : Int64} {bl : List Int32} {R : List Int64} {H : ms_H} (h : c = 159) : ms_x E c a b bl (t :: R) H = .inr (R, (3, t, [])) := by
  unfold ms_x
  rw [if_neg (by omega), if_neg (by omega), if_neg (by omega), if_neg (by omega), if_neg (by omega), if_neg (by omega), if_neg (by omega), if_neg (by omega), if_neg (by omega), if_neg (by omega)]
  dsimp only
  rw [if_neg (by omega), if_neg (by omega), if_neg (by omega), if_neg (by omega), if_neg (by omega), if_neg (by omega), if_neg (by omega), if_neg (by omega), if_neg (by omega), if_neg (by omega), if_pos h]
theorem mx_20 {E : ms_E} {c : Int} {a b t s : Int64} {bl : List Int32} {Q : List Int64} {H : ms_H} (h : c = 20) : ms_x E c a b bl (t :: s :: Q) H = ms_ps s (t :: s :: Q) H := by
  unfold ms_x
  rw [if_neg (by omega), if_neg (by omega), if_neg (by omega), if_neg (by omega), if_neg (by omega), if_neg (by omega), if_neg (by omega), if_neg (by omega), if_neg (by omega), if_neg (by omega)]
  dsimp only
  rw [if_neg (by omega), if_neg (by omega), if_neg (by omega), if_neg (by omega), if_neg (by omega), if_neg (by omega), if_neg (by omega), if_neg (by omega), if_neg (by omega), if_neg (by omega), if_neg (by omega)]
  try dsimp only
  rw [if_pos h]
theorem mx_22 {E : ms_E} {c : Int} {a b t s : Int64} {bl : List Int32} {Q : List Int64} {H : ms_H} (h : c = 22) : ms_x E c a b bl (t :: s :: Q) H = .inr (s :: t :: Q, H) := by
  unfold ms_x
  rw [if_neg (by omega), if_neg (by omega), if_neg (by omega), if_neg (by omega), if_neg (by omega), if_neg (by omega), if_neg (by omega), if_neg (by omega), if_neg (by omega), if_neg (by omega)]
  dsimp only
  rw [if_neg (by omega), if_neg (by omega), if_neg (by omega), if_neg (by omega), if_neg (by omega), if_neg (by omega), if_neg (by omega), if_neg (by omega), if_neg (by omega), if_neg (by omega), if_neg (by omega)]
  try dsimp only
  rw [if_neg (by omega), if_pos h]
theorem mx_23 {E : ms_E} {c : Int} {a b t s r : Int64} {bl : List Int32} {Q : List Int64} {H : ms_H} (h : c = 23) : ms_x E c a b bl (t :: s :: r :: Q) H = .inr (s :: r :: t :: Q, H) := by
  unfold ms_x
  rw [if_neg (by omega), if_neg (by omega), if_neg (by omega), if_neg (by omega), if_neg (by omega), if_neg (by omega), if_neg (by omega), if_neg (by omega), if_neg (by omega), if_neg (by omega)]
  dsimp only
  rw [if_neg (by omega), if_neg (by omega), if_neg (by omega), if_neg (by omega), if_neg (by omega), if_neg (by omega), if_neg (by omega), if_neg (by omega), if_neg (by omega), if_neg (by omega), if_neg (by omega)]
  try dsimp only
  rw [if_neg (by omega), if_neg (by omega), if_pos h]
theorem mx_bin {E : ms_E} {c : Int} {a b t s : Int64} {bl : List Int32} {Q : List Int64} {H : ms_H} (h : 26 ≤ c ∧ c ≤ 46 ∧ c ≠ 31 ∧ c ≠ 32 ∧ c ≠ 35 ∧ c ≠ 40) : ms_x E c a b bl (t :: s :: Q) H = (if (c = 27 ∨ c = 29) ∧ t.toInt = 0 then .inl 6 else .inr (ms_wk c s t :: Q, H)) := by
  unfold ms_x
  rw [if_neg (by omega), if_neg (by omega), if_neg (by omega), if_neg (by omega), if_neg (by omega), if_neg (by omega), if_neg (by omega), if_neg (by omega), if_neg (by omega), if_neg (by omega)]
  dsimp only
  rw [if_neg (by omega), if_neg (by omega), if_neg (by omega), if_neg (by omega), if_neg (by omega), if_neg (by omega), if_neg (by omega), if_neg (by omega), if_neg (by omega), if_neg (by omega), if_neg (by omega)]
  try dsimp only
  rw [if_neg (by omega), if_neg (by omega), if_neg (by omega)]
theorem w_wants {c : Int32} {a : Int64} {SH : Nat → Nat × Nat} {FI : Nat → Nat → Int32} {FL : Nat → Nat → Int64} {FR : Nat → Nat → Option Nat} (ha : FL 121 35 = a) (h21 : c.toInt = 21 → 0 ≤ a.toInt ∧ a.toInt ≤ 255) : (fX12_wants c SH FI FL FR).toInt = ms_wt c.toInt a := by
  unfold fX12_wants ms_wt
  simp only [Int32.reduceToInt]
  by_cases h6 : c.toInt = 6
  · rw [if_pos h6, if_pos (by omega)]; decide
  rw [if_neg h6]
  by_cases h18 : c.toInt = 18
  · rw [if_pos h18, if_pos (by omega)]; decide
  rw [if_neg h18]
  by_cases h19 : c.toInt = 19
  · rw [if_pos h19, if_pos (by omega)]; decide
  rw [if_neg h19]
  by_cases h25 : c.toInt = 25
  · rw [if_pos h25, if_pos (by omega)]; decide
  rw [if_neg h25]
  by_cases h31 : c.toInt = 31
  · rw [if_pos h31, if_pos (by omega)]; decide
  rw [if_neg h31]
  by_cases h32 : c.toInt = 32
  · rw [if_pos h32, if_pos (by omega)]; decide
  rw [if_neg h32]
  by_cases h35 : c.toInt = 35
  · rw [if_pos h35, if_pos (by omega)]; decide
  rw [if_neg h35]
  by_cases h40 : c.toInt = 40
  · rw [if_pos h40, if_pos (by omega)]; decide
  rw [if_neg h40]
  by_cases h148 : c.toInt = 148
  · rw [if_pos h148, if_pos (by omega)]; decide
  rw [if_neg h148]
  by_cases h155 : c.toInt = 155
  · rw [if_pos h155, if_pos (by omega)]; decide
  rw [if_neg h155]
  by_cases h159 : c.toInt = 159
  · rw [if_pos h159, if_pos (by omega)]; decide
  rw [if_neg h159]
  rw [if_neg (show ¬ (c.toInt = 6 ∨ c.toInt = 18 ∨ c.toInt = 19 ∨ c.toInt = 25 ∨ c.toInt = 31 ∨ c.toInt = 32 ∨ c.toInt = 35 ∨ c.toInt = 40 ∨ c.toInt = 148 ∨ c.toInt = 155 ∨ c.toInt = 159) by omega)]
  by_cases h20 : c.toInt = 20
  · rw [if_pos h20, if_pos (by omega)]; decide
  rw [if_neg h20]
  by_cases h22 : c.toInt = 22
  · rw [if_pos h22, if_pos (by omega)]; decide
  rw [if_neg h22]
  rw [if_neg (show ¬ (c.toInt = 20 ∨ c.toInt = 22) by omega)]
  by_cases h9 : c.toInt = 21
  · rw [if_pos h9, if_pos h9, ha, i_add (l_2i rfl (by have := h21 h9; omega) (by have := h21 h9; omega)) (by decide : ((1 : Int32)).toInt = 1) (by have := h21 h9; omega) (by have := h21 h9; omega)]
  rw [if_neg h9, if_neg h9]
  by_cases h23 : c.toInt = 23
  · rw [if_pos h23, if_pos h23]; decide
  rw [if_neg h23, if_neg h23]
  by_cases ha1 : c.toInt < 26
  · rw [if_pos ha1, if_neg (by omega)]; decide
  rw [if_neg ha1]
  by_cases ha2 : 46 < c.toInt
  · rw [if_pos ha2, if_neg (by omega)]; decide
  rw [if_neg ha2, if_pos (by omega)]; decide
def ms_pu (c : Int) : Bool := c = 3 || (8 ≤ c && c ≤ 18) || c = 20 || c = 21 || (48 ≤ c && c ≤ 79) || (112 ≤ c && c ≤ 143) || c = 146 || c = 151 || c = 156
theorem w_byte {c : Int32} (h0 : 0 ≤ c.toInt) (h1 : c.toInt ≤ 255) : ∃ k : Nat, k < 256 ∧ c = Int32.ofNat k := ⟨c.toInt.toNat, by omega, i_of (by omega) (by omega)⟩
def w_S : Nat → Nat × Nat := fun _ => (0, 0)
def w_I : Nat → Nat → Int32 := fun _ _ => 0
def w_L : Nat → Nat → Int64 := fun _ _ => 0
def w_R : Nat → Nat → Option Nat := fun _ _ => none
theorem w_pushes {c : Int32} {SH : Nat → Nat × Nat} {FI : Nat → Nat → Int32} {FL : Nat → Nat → Int64} {FR : Nat → Nat → Option Nat} (h0 : 0 ≤ c.toInt) (h1 : c.toInt ≤ 255) : (fX12_pushes c SH FI FL FR).toInt = 0 ↔ ms_pu c.toInt = false := by
  obtain ⟨k, hk, rfl⟩ := w_byte h0 h1
  have key : ∀ k : Nat, k < 256 → ((fX12_pushes (Int32.ofNat k) w_S w_I w_L w_R).toInt = 0 ↔ ms_pu (Int32.ofNat k).toInt = false) := by decide +kernel
  exact key k hk
theorem w_known {c : Int32} {SH : Nat → Nat × Nat} {FI : Nat → Nat → Int32} {FL : Nat → Nat → Int64} {FR : Nat → Nat → Option Nat} (h0 : 0 ≤ c.toInt) (h1 : c.toInt ≤ 255) : (fX12_isKnown c SH FI FL FR).toInt = 0 ↔ ms_kn c.toInt = false := by
  obtain ⟨k, hk, rfl⟩ := w_byte h0 h1
  have key : ∀ k : Nat, k < 256 → ((fX12_isKnown (Int32.ofNat k) w_S w_I w_L w_R).toInt = 0 ↔ ms_kn (Int32.ofNat k).toInt = false) := by decide +kernel
  exact key k hk
theorem ms_pu_i {c : Int} (h : ms_pu c = true) : c = 3 ∨ (8 ≤ c ∧ c ≤ 18) ∨ c = 20 ∨ c = 21 ∨ (48 ≤ c ∧ c ≤ 79) ∨ (112 ≤ c ∧ c ≤ 143) ∨ c = 146 ∨ c = 151 ∨ c = 156 := by
  unfold ms_pu at h
  simp only [Bool.or_eq_true, Bool.and_eq_true, decide_eq_true_eq] at h
  omega
theorem ms_pu_n {c : Int} (h : ms_pu c = false) : ¬ (c = 3 ∨ (8 ≤ c ∧ c ≤ 18) ∨ c = 20 ∨ c = 21 ∨ (48 ≤ c ∧ c ≤ 79) ∨ (112 ≤ c ∧ c ≤ 143) ∨ c = 146 ∨ c = 151 ∨ c = 156) := by
  intro e
  have : ms_pu c = true := by
    unfold ms_pu
    simp only [Bool.or_eq_true, Bool.and_eq_true, decide_eq_true_eq]
    omega
  rw [h] at this
  cases this
theorem ms_kn_i {c : Int} (h : ms_kn c = true) : c = 3 ∨ c = 6 ∨ (8 ≤ c ∧ c ≤ 23) ∨ (25 ≤ c ∧ c ≤ 148) ∨ (150 ≤ c ∧ c ≤ 153) ∨ (155 ≤ c ∧ c ≤ 159) := by
  unfold ms_kn at h
  simp only [Bool.or_eq_true, Bool.and_eq_true, decide_eq_true_eq] at h
  omega
theorem pv_48 {c a6 : Int32} {a b t s : Int64} {SH : Nat → Nat × Nat} {FI : Nat → Nat → Int32} {FL : Nat → Nat → Int64} {FR : Nat → Nat → Option Nat} (h : 48 ≤ c.toInt ∧ c.toInt ≤ 79) : fX12_pushes_ c a b t s a6 SH FI FL FR = (c - ((48 : Int32))).toInt64 := by
  unfold fX12_pushes_
  simp only [Int32.reduceToInt]
  rw [if_neg (by omega), if_neg (by omega)]
theorem pv_112 {c a6 : Int32} {a b t s : Int64} {SH : Nat → Nat × Nat} {FI : Nat → Nat → Int32} {FL : Nat → Nat → Int64} {FR : Nat → Nat → Option Nat} (h : 112 ≤ c.toInt ∧ c.toInt ≤ 143) : fX12_pushes_ c a b t s a6 SH FI FL FR = FL 122 (c - ((112 : Int32))).toInt.toNat + a := by
  unfold fX12_pushes_
  simp only [Int32.reduceToInt]
  rw [if_neg (by omega), if_pos (by omega), if_neg (by omega), if_neg (by omega)]
theorem pv_146 {c a6 : Int32} {a b t s : Int64} {SH : Nat → Nat × Nat} {FI : Nat → Nat → Int32} {FL : Nat → Nat → Int64} {FR : Nat → Nat → Option Nat} (h : c.toInt = 146) : fX12_pushes_ c a b t s a6 SH FI FL FR = FL 122 (a.toInt32).toInt.toNat + b := by
  unfold fX12_pushes_
  simp only [Int32.reduceToInt]
  rw [if_neg (by omega), if_pos (by omega), if_neg (by omega), if_pos (by omega), if_pos (by omega)]
theorem pv_151 {c a6 : Int32} {a b t s : Int64} {SH : Nat → Nat × Nat} {FI : Nat → Nat → Int32} {FL : Nat → Nat → Int64} {FR : Nat → Nat → Option Nat} (h : c.toInt = 151) : fX12_pushes_ c a b t s a6 SH FI FL FR = FL 121 8 := by
  unfold fX12_pushes_
  simp only [Int32.reduceToInt]
  rw [if_neg (by omega), if_pos (by omega), if_neg (by omega), if_pos (by omega), if_neg (by omega), if_pos (by omega)]
theorem pv_156 {c a6 : Int32} {a b t s : Int64} {SH : Nat → Nat × Nat} {FI : Nat → Nat → Int32} {FL : Nat → Nat → Int64} {FR : Nat → Nat → Option Nat} (h : c.toInt = 156) : fX12_pushes_ c a b t s a6 SH FI FL FR = FL 122 (FI 121 6).toInt.toNat + FL 121 7 := by
  unfold fX12_pushes_
  simp only [Int32.reduceToInt]
  rw [if_neg (by omega), if_pos (by omega), if_neg (by omega), if_pos (by omega), if_neg (by omega), if_neg (by omega), if_pos (by omega)]
theorem pv_18 {c a6 : Int32} {a b t s : Int64} {SH : Nat → Nat × Nat} {FI : Nat → Nat → Int32} {FL : Nat → Nat → Int64} {FR : Nat → Nat → Option Nat} (h : c.toInt = 18) : fX12_pushes_ c a b t s a6 SH FI FL FR = t := by
  unfold fX12_pushes_
  simp only [Int32.reduceToInt]
  rw [if_pos (by omega), if_pos (by omega), if_neg (by omega), if_neg (by omega), if_neg (by omega), if_pos (by omega)]
theorem pv_20 {c a6 : Int32} {a b t s : Int64} {SH : Nat → Nat × Nat} {FI : Nat → Nat → Int32} {FL : Nat → Nat → Int64} {FR : Nat → Nat → Option Nat} (h : c.toInt = 20) : fX12_pushes_ c a b t s a6 SH FI FL FR = s := by
  unfold fX12_pushes_
  simp only [Int32.reduceToInt]
  rw [if_pos (by omega), if_pos (by omega), if_neg (by omega), if_neg (by omega), if_neg (by omega), if_neg (by omega), if_pos (by omega)]
theorem pv_21 {c a6 : Int32} {a b t s : Int64} {SH : Nat → Nat × Nat} {FI : Nat → Nat → Int32} {FL : Nat → Nat → Int64} {FR : Nat → Nat → Option Nat} (h : c.toInt = 21) : fX12_pushes_ c a b t s a6 SH FI FL FR = FL 127 ((a6 - ((1 : Int32))) - (a.toInt32)).toInt.toNat := by
  unfold fX12_pushes_
  simp only [Int32.reduceToInt]
  rw [if_pos (by omega), if_pos (by omega), if_neg (by omega), if_neg (by omega), if_neg (by omega), if_neg (by omega), if_neg (by omega), if_pos (by omega)]
theorem pv_3 {c a6 : Int32} {a b t s : Int64} {SH : Nat → Nat × Nat} {FI : Nat → Nat → Int32} {FL : Nat → Nat → Int64} {FR : Nat → Nat → Option Nat} (h : c.toInt = 3 ∨ (8 ≤ c.toInt ∧ c.toInt ≤ 17)) : fX12_pushes_ c a b t s a6 SH FI FL FR = a := by
  unfold fX12_pushes_
  simp only [Int32.reduceToInt]
  rw [if_pos (by omega), if_pos (by omega), if_neg (by omega), if_neg (by omega), if_neg (by omega), if_neg (by omega), if_neg (by omega), if_neg (by omega)]
end
section
/-! THE REFERENCE'S OPERATIONS on a level. -/
section RA
variable {n sl : Nat} {SH : Nat → Nat × Nat} {FI : Nat → Nat → Int32} {FL : Nat → Nat → Int64} {FR : Nat → Nat → Option Nat} {l o : Nat} {l4 : Int32} {s : ms_S} {u : Unit} {st : hS} {E : ms_E}
theorem rr_ix {x : Int32} {k : Nat} (hl : l4.toInt = l) (h1 : l ≤ 1) (hx : x.toInt = k) (hk : k ≤ 1000) : (((128 : Int32)) * l4 + x).toInt = ((128 * l + k : Nat) : Int) := by
  rw [i_add (i_mul (by decide : ((128 : Int32)).toInt = 128) hl (by omega) (by omega)) hx (by omega) (by omega)]
  omega
theorem rr_push {x : Int64} (hl : l4.toInt = l) (h1 : l ≤ 1) (hv : rv FI FL SH l s) (hs : s.1.length < 128) (h : RX12_pushed l4 x n sl SH FI FL FR u st) : ∃ F2 L2, st = (n, sl, SH, F2, L2, FR) ∧ rv F2 L2 SH l (x :: s.1, s.2) ∧ gz l o FI FL F2 L2 ∧ F2 121 30 = FI 121 30 := by
  obtain ⟨-, -, -, -, -, h⟩ := h
  have el : l4.toInt.toNat = l := by omega
  rw [el] at h
  have ht := hv.1
  have ei := rr_ix hl h1 ht (by omega)
  have ein : (((128 : Int32)) * l4 + FI 128 l).toInt.toNat = 128 * l + s.1.length := by omega
  rw [ein] at h
  have e1 : (FI 128 l + (1 : Int32)).toInt = ((s.1.length + 1 : Nat) : Int) := by rw [i_add ht (by decide : ((1 : Int32)).toInt = 1) (by omega) (by omega)]; omega
  have key : ∀ F2 : Nat → Nat → Int32, (∀ r, r ≠ 128 → r ≠ 121 → F2 r = FI r) → F2 128 l = FI 128 l + (1 : Int32) → rv F2 (h_up FL 127 (128 * l + s.1.length) x) SH l (x :: s.1, s.2) := fun F2 f1 f2 => rv_st hv f1 (fun r hr _ => h_up_nc hr) (by rw [f2]; exact e1) (by simp only [List.length_cons]; omega) ⟨h_up_eq, lv_up hv.2.2.1 (Nat.le_refl _)⟩
  have w1 : wlz l 127 (128 * l + s.1.length) := Or.inr (Or.inl ⟨rfl, by omega, by omega⟩)
  have w2 : wi l 128 l := Or.inr (Or.inl ⟨Or.inl rfl, rfl⟩)
  rcases h with ⟨-, -, -, e⟩ | ⟨-, -, e⟩
  · exact ⟨_, _, e, key _ (fun r h1 h2 => by rw [h_up_nc h2, h_up_nc h1]) (by rw [h_up_nc (by decide), h_up_eq]), gz_i (gz_i (gz_l gz_rf w1) w2) (Or.inl ⟨rfl, by decide, by decide⟩), by rw [h_up_ne (by decide), h_up_nc (by decide)]⟩
  · exact ⟨_, _, e, key _ (fun r h1 _ => h_up_nc h1) h_up_eq, gz_i (gz_l gz_rf w1) w2, by rw [h_up_nc (by decide)]⟩
/-- where acts begins its choice -/
theorem r_a57 {c : Int32} {a b : Int64} (hl : l4.toInt = l) (h1 : l ≤ 1) (hv : rv FI FL SH l s) (h : RX12_acts l4 c a b n sl SH FI FL FR u st) : ∃ (i : Int32) (t s0 : Int64), RX12_acts_57 l4 c a b (FI 128 l) i t s0 n sl SH FI FL FR u st ∧ i.toInt = (128 * l : Int) + s.1.length - 1 ∧ (∀ t' R, s.1 = t' :: R → t = t') ∧ (∀ t' s' Q, s.1 = t' :: s' :: Q → s0 = s') := by
  obtain ⟨-, h⟩ := h
  have el : l4.toInt.toNat = l := by omega
  rw [el] at h
  have ht := hv.1
  have hlen := hv.2.1
  have ei : ((((128 : Int32)) * l4 + FI 128 l) - (1 : Int32)).toInt = (128 * l : Int) + s.1.length - 1 := by
    rw [i_sub (rr_ix hl h1 ht (by omega)) (by decide : ((1 : Int32)).toInt = 1) (by omega) (by omega)]
    omega
  generalize (((128 : Int32)) * l4 + FI 128 l) - (1 : Int32) = i at h ei
  have hS := hv.2.2.1
  obtain ⟨S, sr⟩ := s
  dsimp only at ht hlen ei hS ⊢
  have st1 : ∀ {t : Int64}, (∀ t' R, S = t' :: R → t = t') → RX12_acts_36 l4 c a b (FI 128 l) i t n sl SH FI FL FR u st → ∃ (i2 : Int32) (t s0 : Int64), RX12_acts_57 l4 c a b (FI 128 l) i2 t s0 n sl SH FI FL FR u st ∧ i2.toInt = (128 * l : Int) + S.length - 1 ∧ (∀ t' R, S = t' :: R → t = t') ∧ (∀ t' s' Q, S = t' :: s' :: Q → s0 = s') := by
    intro t ht1 h
    rcases h with ⟨h2, -, h⟩ | ⟨h2, h⟩
    · refine ⟨i, t, _, h, ei, ht1, fun t' s' Q e => ?_⟩
      subst e
      have k2 : (i - (1 : Int32)).toInt = (128 * l : Int) + Q.length := by
        simp only [List.length_cons] at ei hlen
        rw [i_sub ei (by decide : ((1 : Int32)).toInt = 1) (by omega) (by omega)]
        omega
      rw [show (i - (1 : Int32)).toInt.toNat = 128 * l + Q.length by omega]
      exact hS.2.1
    · refine ⟨i, t, _, h, ei, ht1, fun t' s' Q e => ?_⟩
      subst e
      exfalso
      rw [show ((1 : Int32)).toInt = 1 by decide, ht] at h2
      simp only [List.length_cons] at h2
      omega
  rcases h with ⟨h2, -, h⟩ | ⟨h2, h⟩
  · refine st1 (fun t' R e => ?_) h
    subst e
    simp only [List.length_cons] at ei
    rw [show i.toInt.toNat = 128 * l + R.length by omega]
    exact hS.1
  · refine st1 (fun t' R e => ?_) h
    subst e
    exfalso
    rw [ht] at h2
    simp only [List.length_cons] at h2
    omega
/-- the answer of an operation that acts -/
def ra_c (n sl : Nat) (SH : Nat → Nat × Nat) (FI : Nat → Nat → Int32) (FL : Nat → Nat → Int64) (FR : Nat → Nat → Option Nat) (l o : Nat) (st : hS) (s2 : ms_S) : Prop := ∃ F2 L2, st = (n, sl, SH, F2, L2, FR) ∧ rv F2 L2 SH l s2 ∧ gz l o FI FL F2 L2 ∧ F2 121 30 = FI 121 30
variable {c : Int32} {a b : Int64} {S R Q : List Int64} {H : ms_H} {P : List ms_P} {t y r : Int64}
theorem w_top {k : Nat} (hl : l ≤ 1) (hk : k < 128) : wlz l 127 (128 * l + k) := Or.inr (Or.inl ⟨rfl, by omega, by omega⟩)
theorem w_128 : wi l 128 l := Or.inr (Or.inl ⟨Or.inl rfl, rfl⟩)
/-- the top is taken away -/
theorem ra_pop (hv : rv FI FL SH l (t :: R, H, P)) : ∃ F2, F2 = h_up FI 128 l (FI 128 l - (1 : Int32)) ∧ rv F2 FL SH l (R, H, P) ∧ gz l o FI FL F2 FL ∧ F2 121 30 = FI 121 30 := by
  have ht := hv.1
  have hlen := hv.2.1
  simp only [List.length_cons] at ht hlen
  refine ⟨_, rfl, rv_st hv (fun r h1 _ => h_up_nc h1) (fun _ _ _ => rfl) ?_ (by omega) hv.2.2.1.2, gz_i gz_rf w_128, by rw [h_up_nc (by decide)]⟩
  rw [h_up_eq, i_sub ht (by decide : ((1 : Int32)).toInt = 1) (by omega) (by omega)]
  show ((R.length + 1 : Nat) : Int) - 1 = (R.length : Int)
  omega
/-- the top is changed -/
theorem ra_top (h1 : l ≤ 1) (hv : rv FI FL SH l (t :: R, H, P)) : rv FI (h_up FL 127 (128 * l + R.length) y) SH l (y :: R, H, P) ∧ gz l o FI FL FI (h_up FL 127 (128 * l + R.length) y) := by
  have ht := hv.1
  have hlen := hv.2.1
  simp only [List.length_cons] at ht hlen
  exact ⟨rv_st hv (fun _ _ _ => rfl) (fun r h1 _ => h_up_nc h1) ht hlen ⟨h_up_eq, lv_up hv.2.2.1.2 (Nat.le_refl _)⟩, gz_l gz_rf (w_top h1 (by omega))⟩
theorem ra_un (h1 : l ≤ 1) (hv : rv FI FL SH l (t :: R, H, P)) {i : Int32} (hi : i.toInt = (128 * l : Int) + ((t :: R).length : Int) - 1) (e : st = (n, sl, SH, FI, h_up FL 127 i.toInt.toNat y, FR)) : ra_c n sl SH FI FL FR l o st (y :: R, H, P) := by
  simp only [List.length_cons] at hi
  rw [show i.toInt.toNat = 128 * l + R.length by omega] at e
  exact ⟨_, _, e, (ra_top (o := o) h1 hv).1, (ra_top h1 hv).2, rfl⟩
theorem ra_read {x : Int64} {a2 : Int32} {k : Nat} {v : Int64} {st2 : hS} (hE : rE FI FL SH E) (h2 : a2.toInt = k) (hk : k ≤ 8) (hx0 : 0 ≤ x.toInt) (hx1 : x.toInt ≤ 4096 - k) (h : RX12_read x a2 n sl SH FI FL FR v st2) : v = ms_rd E x.toInt.toNat k ∧ st2 = (n, sl, SH, FI, FL, FR) := by
  obtain ⟨g, h⟩ := h
  have ex : x.toInt32.toInt = x.toInt := l_2i rfl (by omega) (by omega)
  have key : ∀ (g i : Nat) (l4l : Int64) (l6i : Int32), l6i.toInt = (i : Int) - 1 → i ≤ k → l4l = ms_le (((List.range k).map (fun i => ms_mm E (x.toInt.toNat + i))).drop i) → GX12_read_8 x a2 g l4l l6i n sl SH FI FL FR v st2 → v = ms_rd E x.toInt.toNat k ∧ st2 = (n, sl, SH, FI, FL, FR) := by
    intro g
    induction g with
    | zero => intro i l4l l6i _ _ _ h; exact h.elim
    | succ g ih =>
      intro i l4l l6i hi hik hl h
      rcases h with ⟨h0, e1, e2⟩ | ⟨h0, -, h⟩
      · have e : i = 0 := by omega
        subst e
        exact ⟨e1.trans hl, e2⟩
      · cases i with
        | zero => exfalso; omega
        | succ i =>
          have hx : (x.toInt32 + l6i).toInt = x.toInt + i := by rw [i_add ex hi (by omega) (by omega)]; omega
          rw [show (x.toInt32 + l6i).toInt.toNat = x.toInt.toNat + i by omega, hE.2.1 (x.toInt.toNat + i) (by omega)] at h
          refine ih i _ _ (by rw [i_add hi (by decide : ((-1 : Int32)).toInt = -1) (by omega) (by omega)]; omega) (by omega) ?_ h
          have h5 : ((List.range k).map (fun i => ms_mm E (x.toInt.toNat + i)))[i]? = some (ms_mm E (x.toInt.toNat + i)) := by
            rw [List.getElem?_map, List.getElem?_range (by omega)]
            rfl
          obtain ⟨hl5, e5⟩ := List.getElem?_eq_some_iff.mp h5
          rw [hl, List.drop_eq_getElem_cons hl5, e5]
          rfl
  refine key g k _ _ ?_ (Nat.le_refl _) ?_ h
  · rw [i_sub h2 (by decide : ((1 : Int32)).toInt = 1) (by omega) (by omega)]
  · rw [List.drop_of_length_le (by simp)]
    rfl
/-- a hold -/
theorem ra_hold {k z : Int32} {x : Int64} (hl : l4.toInt = l) (hv : rv FI FL SH l s) (hH : ∀ F2 L2, F2 124 = FI 124 → F2 136 l = k → L2 137 l = x → F2 138 l = z → rt F2 L2 SH 136 137 138 l H) {n2 sl2 : Nat} {S2 : Nat → Nat × Nat} {F2 : Nat → Nat → Int32} {L2 : Nat → Nat → Int64} {R2 : Nat → Nat → Option Nat} (h : RX12_hold l4 k x z n sl SH FI FL FR u (n2, sl2, S2, F2, L2, R2)) : (n2, sl2, S2, F2, L2, R2) = (n, sl, SH, F2, L2, FR) ∧ rv F2 L2 SH l (s.1, H, s.2.2) ∧ gz l o FI FL F2 L2 ∧ F2 121 30 = FI 121 30 := by
  obtain ⟨-, -, -, -, e⟩ := h
  rw [show l4.toInt.toNat = l by omega] at e
  cases e
  refine ⟨rfl, rv_hd hv (fun r h1 h2 => by rw [h_up_nc h2, h_up_nc h1]) (fun r h1 => h_up_nc h1) (hH _ _ (by rw [h_up_nc (by decide), h_up_nc (by decide)]) (by rw [h_up_nc (by decide), h_up_eq]) h_up_eq h_up_eq), gz_i (gz_i (gz_l gz_rf (Or.inr (Or.inr (Or.inl ⟨rfl, rfl⟩)))) (Or.inr (Or.inl ⟨Or.inr (Or.inr (Or.inr (Or.inl rfl))), rfl⟩))) (Or.inr (Or.inl ⟨Or.inr (Or.inr (Or.inr (Or.inr rfl))), rfl⟩)), by rw [h_up_nc (by decide), h_up_nc (by decide)]⟩
theorem rt_2 {x : Int64} (h0 : 0 ≤ x.toInt) (h1 : x.toInt ≤ 31) {F2 : Nat → Nat → Int32} {L2 : Nat → Nat → Int64} (e1 : F2 136 l = 2) (e2 : L2 137 l = x) : rt F2 L2 SH 136 137 138 l (2, x, []) := ⟨by rw [e1]; show ((2 : Int32)).toInt = 2; decide, Or.inr (Or.inr (Or.inl ⟨rfl, rfl, h0, h1⟩)), fun _ => e2, fun e => absurd (show (2 : Int) = 4 from e) (by decide)⟩
theorem rt_3 {x : Int64} {F2 : Nat → Nat → Int32} {L2 : Nat → Nat → Int64} (e1 : F2 136 l = 3) (e2 : L2 137 l = x) : rt F2 L2 SH 136 137 138 l (3, x, []) := ⟨by rw [e1]; show ((3 : Int32)).toInt = 3; decide, Or.inr (Or.inr (Or.inr (Or.inl ⟨rfl, rfl⟩))), fun _ => e2, fun e => absurd (show (3 : Int) = 4 from e) (by decide)⟩
end RA
end
