/-! THE TOKENS of a text X of N letters, as the reference cuts them. -/
def t_sg (X : Nat → Int) (N i : Nat) : Int := if i < N then X i else -1
def t_sm (c : Int) : Bool := decide (97 ≤ c ∧ c ≤ 122)
def t_dg (c : Int) : Bool := decide (48 ≤ c ∧ c ≤ 57)
def t_lt (c : Int) : Bool := t_sm c || decide (65 ≤ c ∧ c ≤ 90)
def t_al (c : Int) : Bool := t_sm c || t_dg c
def t_rn (p : Int → Bool) (X : Nat → Int) (N : Nat) : Nat → Nat → Nat
  | 0, i => i
  | f + 1, i => if p (t_sg X N i) = true then t_rn p X N f (i + 1) else i
def t_cd (c : Int) : Int := if t_sm c = true then c - 96 else c - 21
def t_wv (X : Nat → Int) (N i : Nat) : Nat → Int
  | 0 => 0
  | m + 1 => 37 * t_wv X N i m + t_cd (t_sg X N (i + m))
def t_nv (X : Nat → Int) (N i : Nat) : Nat → Int
  | 0 => 0
  | m + 1 => 10 * t_nv X N i m + t_sg X N (i + m) - 48
def t_wd (v : Int) : Int := if v = 24834 then 0 else if v = 41299405 then 1 else if v = 5042231 then 2 else if v = 730200 then 3 else if v = 224 then 4 else if v = 4330 then 5 else if v = 20619 then 6 else if v = 27843 then 7 else if v = 5831 then 8 else if v = 18356 then 9 else -1
def t_s2 (c n m : Int) : Int := if c = 46 ∧ n = 46 then 256 else if c = 61 ∧ n = 61 then 257 else if c = 33 ∧ n = 61 then 258 else if c = 60 ∧ n = 61 then 259 else if c = 62 ∧ n = 61 then 260 else if c = 60 ∧ n = 60 then 261 else if c = 62 ∧ n = 62 then (if m = 62 then 263 else 262) else -1
def t_s1 (c : Int) : Bool := decide (c = 61 ∨ c = 59 ∨ c = 44 ∨ c = 58 ∨ c = 123 ∨ c = 125 ∨ c = 91 ∨ c = 93 ∨ c = 40 ∨ c = 41 ∨ c = 47 ∨ c = 37 ∨ c = 63 ∨ c = 124 ∨ c = 94 ∨ c = 38 ∨ c = 60 ∨ c = 62 ∨ c = 43 ∨ c = 45 ∨ c = 42 ∨ c = 126)
/-- a sign: kind, worth, how many letters -/
def t_sn (c n m : Int) : Int × Int × Nat := if t_s2 c n m ≠ -1 then (5, t_s2 c n m, if t_s2 c n m = 263 then 3 else 2) else if t_s1 c = true then (5, c, 1) else (6, -1, 1)
/-- the token at i: kind, worth, its end -/
def t_tk (X : Nat → Int) (N i : Nat) : Int × Int × Nat :=
  if t_sm (t_sg X N i) = true then
    (if t_rn t_al X N 1001 i - i > 8 then (6, 0, t_rn t_al X N 1001 i) else if t_wd (t_wv X N i (t_rn t_al X N 1001 i - i)) = -1 then (1, t_wv X N i (t_rn t_al X N 1001 i - i), t_rn t_al X N 1001 i) else (2, t_wd (t_wv X N i (t_rn t_al X N 1001 i - i)), t_rn t_al X N 1001 i))
  else if t_dg (t_sg X N i) = true then
    (if t_rn t_dg X N 1001 i - i > 18 then 6 else if t_lt (t_sg X N (t_rn t_dg X N 1001 i)) = true then 6 else 3, t_nv X N i (min (t_rn t_dg X N 1001 i - i) 18), t_rn t_dg X N 1001 i)
  else if t_sg X N i = 64 then (if 49 ≤ t_sg X N (i + 1) ∧ t_sg X N (i + 1) ≤ 56 then (4, t_sg X N (i + 1) - 48, i + 2) else (6, t_sg X N (i + 1) - 48, i + 1))
  else ((t_sn (t_sg X N i) (t_sg X N (i + 1)) (t_sg X N (i + 2))).1, (t_sn (t_sg X N i) (t_sg X N (i + 1)) (t_sg X N (i + 2))).2.1, i + (t_sn (t_sg X N i) (t_sg X N (i + 1)) (t_sg X N (i + 2))).2.2)
def t_bl (c : Int) : Bool := decide (c = 32 ∨ c = 10)
def t_tl (X : Nat → Int) (N : Nat) : Nat → Nat → List (Int × Int × Nat)
  | 0, _ => []
  | f + 1, i => if i < N then (if t_bl (t_sg X N i) = true then t_tl X N f (i + 1) else ((t_tk X N i).1, (t_tk X N i).2.1, i) :: t_tl X N f (t_tk X N i).2.2) else [(0, 0, N)]
theorem t_rn_ge {p : Int → Bool} {X : Nat → Int} {N : Nat} : ∀ (f i : Nat), i ≤ t_rn p X N f i
  | 0, i => Nat.le_refl _
  | f + 1, i => by
    rw [t_rn]
    split
    · have := t_rn_ge (p := p) (X := X) (N := N) f (i + 1)
      omega
    · exact Nat.le_refl _
theorem t_sg_N {X : Nat → Int} {N i : Nat} (h : N ≤ i) : t_sg X N i = -1 := by unfold t_sg; rw [if_neg (by omega)]
theorem t_rn_le {p : Int → Bool} (hp : p (-1) = false) {X : Nat → Int} {N : Nat} : ∀ (f i : Nat), i ≤ N → t_rn p X N f i ≤ N
  | 0, i, h => h
  | f + 1, i, h => by
    rw [t_rn]
    split
    · rename_i h1
      have hi : i < N := by
        rcases Nat.lt_or_ge i N with h2 | h2
        · exact h2
        · rw [t_sg_N h2, hp] at h1
          cases h1
      exact t_rn_le hp f (i + 1) hi
    · exact h
theorem t_rn_in {p : Int → Bool} {X : Nat → Int} {N : Nat} : ∀ (f i j : Nat), i ≤ j → j < t_rn p X N f i → p (t_sg X N j) = true
  | 0, i, j, h1, h2 => by
    have h3 : j < i := h2
    omega
  | f + 1, i, j, h1, h2 => by
    rw [t_rn] at h2
    split at h2
    · rename_i h3
      by_cases e : j = i
      · subst e; exact h3
      · exact t_rn_in f (i + 1) j (by omega) h2
    · omega
theorem t_rn_out {p : Int → Bool} (hp : p (-1) = false) {X : Nat → Int} {N : Nat} : ∀ (f i : Nat), N - i < f → p (t_sg X N (t_rn p X N f i)) = false
  | 0, i, h => by omega
  | f + 1, i, h => by
    rw [t_rn]
    split
    · rename_i h1
      have hi : i < N := by
        rcases Nat.lt_or_ge i N with h2 | h2
        · exact h2
        · rw [t_sg_N h2, hp] at h1
          cases h1
      exact t_rn_out hp f (i + 1) (by omega)
    · rename_i h1
      simpa using h1
theorem t_cd_rg {c : Int} (h : t_al c = true) : 1 ≤ t_cd c ∧ t_cd c ≤ 36 := by
  unfold t_cd
  have h2 : (97 ≤ c ∧ c ≤ 122) ∨ (48 ≤ c ∧ c ≤ 57) := by simpa [t_al, t_sm, t_dg] using h
  by_cases h3 : t_sm c = true
  · rw [if_pos h3]
    have : 97 ≤ c ∧ c ≤ 122 := by simpa [t_sm] using h3
    omega
  · rw [if_neg h3]
    have : ¬ (97 ≤ c ∧ c ≤ 122) := by simpa [t_sm] using h3
    omega
theorem t_wv_rg {X : Nat → Int} {N i : Nat} : ∀ (m : Nat), (∀ j, i ≤ j → j < i + m → t_al (t_sg X N j) = true) → m ≤ 8 → 0 ≤ t_wv X N i m ∧ t_wv X N i m < 37 ^ m
  | 0, _, _ => by simp [t_wv]
  | m + 1, h, hm => by
    have q := t_wv_rg m (fun j h1 h2 => h j h1 (by omega)) (by omega)
    have c := t_cd_rg (h (i + m) (by omega) (by omega))
    rw [t_wv, Int.pow_succ]
    omega
theorem t_nv_rg {X : Nat → Int} {N i : Nat} : ∀ (m : Nat), (∀ j, i ≤ j → j < i + m → t_dg (t_sg X N j) = true) → m ≤ 18 → 0 ≤ t_nv X N i m ∧ t_nv X N i m < 10 ^ m
  | 0, _, _ => by simp [t_nv]
  | m + 1, h, hm => by
    have q := t_nv_rg m (fun j h1 h2 => h j h1 (by omega)) (by omega)
    have c : 48 ≤ t_sg X N (i + m) ∧ t_sg X N (i + m) ≤ 57 := by simpa [t_dg] using h (i + m) (by omega) (by omega)
    rw [t_nv, Int.pow_succ]
    omega
theorem p37_8 : ∀ m : Nat, m ≤ 8 → (37 : Int) ^ m ≤ 3512479453921 := by decide
theorem p10_18 : ∀ m : Nat, m ≤ 18 → (10 : Int) ^ m ≤ 1000000000000000000 := by decide
/-- the text as it lies on the reference's tape -/
def x_vw (FI : Nat → Nat → Int32) (X : Nat → Int) (N : Nat) : Prop := (FI 121 13).toInt = N ∧ N ≤ 1000 ∧ ∀ i, i < N → (FI 126 i).toInt = X i ∧ 0 ≤ X i ∧ X i ≤ 255
/-- the tokens as they lie in the cells -/
def t_vw (F0 : Nat → Nat → Int32) (L0 : Nat → Nat → Int64) (FI : Nat → Nat → Int32) (FL : Nat → Nat → Int64) (L : List (Int × Int × Nat)) : Prop := (FI 121 67).toInt = L.length ∧ (∀ i x, L[i]? = some x → (FI 149 i).toInt = x.1 ∧ (FL 150 i).toInt = x.2.1 ∧ (FI 151 i).toInt = x.2.2) ∧ ∀ i, L.length ≤ i → FI 149 i = F0 149 i ∧ FL 150 i = L0 150 i
def t_ap (a b : hS) (x : Int × Int × Nat) : Prop := kq mX12_token a b ∧ ∀ F0 L0 L, L.length ≤ 1001 → t_vw F0 L0 a.2.2.2.1 a.2.2.2.2.1 L → t_vw F0 L0 b.2.2.2.1 b.2.2.2.2.1 (L ++ [x])
section TK
variable {X : Nat → Int} {N : Nat} {n sl : Nat} {SH : Nat → Nat × Nat} {FI : Nat → Nat → Int32} {FL : Nat → Nat → Int64} {FR : Nat → Nat → Option Nat} {s : hS}
theorem x_sign {a : Int32} {i : Nat} (h : x_vw FI X N) (ha : a.toInt = i) : (fX12_sign a SH FI FL FR).toInt = t_sg X N i := by
  unfold fX12_sign t_sg
  rw [ha, h.1]
  by_cases h1 : i < N
  · rw [if_pos h1, if_pos (by omega), show ((i : Int)).toNat = i by omega]
    exact (h.2.2 i h1).1
  · rw [if_neg h1, if_neg (by omega)]
    decide
theorem t_sg_rg (h : x_vw FI X N) (i : Nat) : -1 ≤ t_sg X N i ∧ t_sg X N i ≤ 255 := by
  unfold t_sg
  by_cases h1 : i < N
  · rw [if_pos h1]
    have := h.2.2 i h1
    omega
  · rw [if_neg h1]; omega
theorem x_small {a : Int32} {c : Int} (ha : a.toInt = c) : (fX12_isSmall a SH FI FL FR).toInt = 0 ↔ t_sm c = false := by
  unfold fX12_isSmall t_sm
  have c97 : ((97 : Int32)).toInt = 97 := by decide
  have c122 : ((122 : Int32)).toInt = 122 := by decide
  rw [ha, c97, c122, decide_eq_false_iff_not]
  split
  · exact ⟨fun _ => by omega, fun _ => by decide⟩
  · split
    · exact ⟨fun _ => by omega, fun _ => by decide⟩
    · exact ⟨fun h => absurd h (by decide), fun h => by omega⟩
theorem x_digit {a : Int32} {c : Int} (ha : a.toInt = c) : (fX12_isDigit a SH FI FL FR).toInt = 0 ↔ t_dg c = false := by
  unfold fX12_isDigit t_dg
  have c97 : ((48 : Int32)).toInt = 48 := by decide
  have c122 : ((57 : Int32)).toInt = 57 := by decide
  rw [ha, c97, c122, decide_eq_false_iff_not]
  split
  · exact ⟨fun _ => by omega, fun _ => by decide⟩
  · split
    · exact ⟨fun _ => by omega, fun _ => by decide⟩
    · exact ⟨fun h => absurd h (by decide), fun h => by omega⟩
theorem x_letter {a : Int32} {c : Int} (ha : a.toInt = c) : (fX12_isLetter a SH FI FL FR).toInt = 0 ↔ t_lt c = false := by
  have hs := x_small (SH := SH) (FI := FI) (FL := FL) (FR := FR) ha
  unfold fX12_isLetter t_lt
  have c97 : ((65 : Int32)).toInt = 65 := by decide
  have c122 : ((90 : Int32)).toInt = 90 := by decide
  rw [ha, c97, c122, Bool.or_eq_false_iff, decide_eq_false_iff_not]
  split
  · rename_i h0
    have h1 := hs.mp h0
    split
    · exact ⟨fun _ => ⟨h1, by omega⟩, fun _ => by decide⟩
    · split
      · exact ⟨fun _ => ⟨h1, by omega⟩, fun _ => by decide⟩
      · exact ⟨fun h => absurd h (by decide), fun h => by omega⟩
  · rename_i h0
    exact ⟨fun h => absurd h (by decide), fun h => absurd (hs.mpr h.1) h0⟩
theorem x_word {a : Int64} {v : Int} (ha : a.toInt = v) : (fX12_word a SH FI FL FR).toInt = t_wd v := by
  have d0 : ((24834 : Int64)).toInt = 24834 := by decide
  have d1 : ((41299405 : Int64)).toInt = 41299405 := by decide
  have d2 : ((5042231 : Int64)).toInt = 5042231 := by decide
  have d3 : ((730200 : Int64)).toInt = 730200 := by decide
  have d4 : ((224 : Int64)).toInt = 224 := by decide
  have d5 : ((4330 : Int64)).toInt = 4330 := by decide
  have d6 : ((20619 : Int64)).toInt = 20619 := by decide
  have d7 : ((27843 : Int64)).toInt = 27843 := by decide
  have d8 : ((5831 : Int64)).toInt = 5831 := by decide
  have d9 : ((18356 : Int64)).toInt = 18356 := by decide
  unfold fX12_word t_wd
  rw [ha, d0, d1, d2, d3, d4, d5, d6, d7, d8, d9]
  split
  · decide
  · split
    · decide
    · split
      · decide
      · split
        · decide
        · split
          · decide
          · split
            · decide
            · split
              · decide
              · split
                · decide
                · split
                  · decide
                  · split <;> decide
theorem t_token {k p : Int32} {w : Int64} {K W : Int} {q : Nat} {v : Unit} (h : RX12_token k w p n sl SH FI FL FR v s) (hk : k.toInt = K) (hw : w.toInt = W) (hp : p.toInt = q) : t_ap (n, sl, SH, FI, FL, FR) s (K, W, q) := by
  refine ⟨kX12_token h, fun F0 L0 L hL hv => ?_⟩
  obtain ⟨-, -, -, -, rfl⟩ := h
  dsimp only at hv ⊢
  have hn : (FI 121 67).toInt.toNat = L.length := by have := hv.1; omega
  rw [hn]
  refine ⟨?_, fun i x hx => ?_, fun i hi => ?_⟩
  · rw [h_up_eq, i_add hv.1 (by decide : ((1 : Int32)).toInt = 1) (by omega) (by omega), List.length_append]
    rfl
  · have a1 : (h_up (h_up (h_up FI 149 L.length k) 151 L.length p) 121 67 (FI 121 67 + 1)) 149 i = h_up FI 149 L.length k 149 i := by rw [h_up_nc (by decide), h_up_nc (by decide)]
    have a2 : (h_up (h_up (h_up FI 149 L.length k) 151 L.length p) 121 67 (FI 121 67 + 1)) 151 i = h_up (h_up FI 149 L.length k) 151 L.length p 151 i := by rw [h_up_nc (by decide)]
    rw [a1, a2]
    have hi := (List.getElem?_eq_some_iff.mp hx).1
    rw [List.length_append] at hi
    have hi' : i < L.length + 1 := hi
    by_cases e : i = L.length
    · subst e
      rw [List.getElem?_append_right (Nat.le_refl _), Nat.sub_self] at hx
      cases hx
      rw [h_up_eq, h_up_eq, h_up_eq]
      exact ⟨hk, hw, hp⟩
    · rw [List.getElem?_append_left (by omega)] at hx
      rw [h_up_ne e, h_up_ne e, h_up_ne e, h_up_nc (by decide)]
      exact hv.2.1 i x hx
  · rw [List.length_append] at hi
    have hi' : L.length + 1 ≤ i := hi
    rw [h_up_nc (by decide), h_up_nc (by decide), h_up_ne (by omega), h_up_ne (by omega)]
    exact hv.2.2 i (by omega)
end TK
